theorem dX8_in_0 : decode cX8_in 0 = .ok (.lload_n 0, 1) := by decide +kernel
theorem dX8_in_1 : decode cX8_in 1 = .ok (.lload_n 2, 1) := by decide +kernel
theorem dX8_in_2 : decode cX8_in 2 = .ok (.lcmp, 1) := by decide +kernel
theorem dX8_in_3 : decode cX8_in 3 = .ok (.ifCond .lt 14, 3) := by decide +kernel
theorem dX8_in_6 : decode cX8_in 6 = .ok (.lload_n 0, 1) := by decide +kernel
theorem dX8_in_7 : decode cX8_in 7 = .ok (.lload 4, 2) := by decide +kernel
theorem dX8_in_9 : decode cX8_in 9 = .ok (.lcmp, 1) := by decide +kernel
theorem dX8_in_10 : decode cX8_in 10 = .ok (.ifCond .gt 7, 3) := by decide +kernel
theorem dX8_in_13 : decode cX8_in 13 = .ok (.iconst 1, 1) := by decide +kernel
theorem dX8_in_14 : decode cX8_in 14 = .ok (.goto 4, 3) := by decide +kernel
theorem dX8_in_17 : decode cX8_in 17 = .ok (.iconst 0, 1) := by decide +kernel
theorem dX8_in_18 : decode cX8_in 18 = .ok (.ireturn, 1) := by decide +kernel
theorem dX8_finding_0 : decode cX8_finding 0 = .ok (.aload_n 0, 1) := by decide +kernel
theorem dX8_finding_1 : decode cX8_finding 1 = .ok (.iload_n 1, 1) := by decide +kernel
theorem dX8_finding_2 : decode cX8_finding 2 = .ok (.putfield 72, 3) := by decide +kernel
theorem dX8_finding_5 : decode cX8_finding 5 = .ok (.ldc 75, 2) := by decide +kernel
theorem dX8_finding_7 : decode cX8_finding 7 = .ok (.iload_n 1, 1) := by decide +kernel
theorem dX8_finding_8 : decode cX8_finding 8 = .ok (.isub, 1) := by decide +kernel
theorem dX8_finding_9 : decode cX8_finding 9 = .ok (.ireturn, 1) := by decide +kernel
theorem dX8_isRow_0 : decode cX8_isRow 0 = .ok (.iload_n 0, 1) := by decide +kernel
theorem dX8_isRow_1 : decode cX8_isRow 1 = .ok (.i2l, 1) := by decide +kernel
theorem dX8_isRow_2 : decode cX8_isRow 2 = .ok (.lconst 0, 1) := by decide +kernel
theorem dX8_isRow_3 : decode cX8_isRow 3 = .ok (.ldc2_w 76, 3) := by decide +kernel
theorem dX8_isRow_6 : decode cX8_isRow 6 = .ok (.invokestatic 78, 3) := by decide +kernel
theorem dX8_isRow_9 : decode cX8_isRow 9 = .ok (.ireturn, 1) := by decide +kernel
theorem dX8_row_0 : decode cX8_row 0 = .ok (.aload_n 0, 1) := by decide +kernel
theorem dX8_row_1 : decode cX8_row 1 = .ok (.iconst 0, 1) := by decide +kernel
theorem dX8_row_2 : decode cX8_row 2 = .ok (.putfield 68, 3) := by decide +kernel
theorem dX8_row_5 : decode cX8_row 5 = .ok (.iload_n 1, 1) := by decide +kernel
theorem dX8_row_6 : decode cX8_row 6 = .ok (.invokestatic 82, 3) := by decide +kernel
theorem dX8_row_9 : decode cX8_row 9 = .ok (.ifCond .eq 21, 3) := by decide +kernel
theorem dX8_row_12 : decode cX8_row 12 = .ok (.iload_n 2, 1) := by decide +kernel
theorem dX8_row_13 : decode cX8_row 13 = .ok (.i2l, 1) := by decide +kernel
theorem dX8_row_14 : decode cX8_row 14 = .ok (.lconst 0, 1) := by decide +kernel
theorem dX8_row_15 : decode cX8_row 15 = .ok (.ldc2_w 86, 3) := by decide +kernel
theorem dX8_row_18 : decode cX8_row 18 = .ok (.invokestatic 78, 3) := by decide +kernel
theorem dX8_row_21 : decode cX8_row 21 = .ok (.ifCond .eq 9, 3) := by decide +kernel
theorem dX8_row_24 : decode cX8_row 24 = .ok (.iload_n 3, 1) := by decide +kernel
theorem dX8_row_25 : decode cX8_row 25 = .ok (.bipush 40, 2) := by decide +kernel
theorem dX8_row_27 : decode cX8_row 27 = .ok (.if_icmp .le 6, 3) := by decide +kernel
theorem dX8_row_30 : decode cX8_row 30 = .ok (.ldc 88, 2) := by decide +kernel
theorem dX8_row_32 : decode cX8_row 32 = .ok (.ireturn, 1) := by decide +kernel
theorem dX8_row_33 : decode cX8_row 33 = .ok (.aload_n 0, 1) := by decide +kernel
theorem dX8_row_34 : decode cX8_row 34 = .ok (.iconst 0, 1) := by decide +kernel
theorem dX8_row_35 : decode cX8_row 35 = .ok (.putfield 72, 3) := by decide +kernel
theorem dX8_row_38 : decode cX8_row 38 = .ok (.iload_n 3, 1) := by decide +kernel
theorem dX8_row_39 : decode cX8_row 39 = .ok (.ifCond .ge 9, 3) := by decide +kernel
theorem dX8_row_42 : decode cX8_row 42 = .ok (.aload_n 0, 1) := by decide +kernel
theorem dX8_row_43 : decode cX8_row 43 = .ok (.iconst 4, 1) := by decide +kernel
theorem dX8_row_44 : decode cX8_row 44 = .ok (.invokevirtual 89, 3) := by decide +kernel
theorem dX8_row_47 : decode cX8_row 47 = .ok (.ireturn, 1) := by decide +kernel
theorem dX8_row_48 : decode cX8_row 48 = .ok (.aload_n 0, 1) := by decide +kernel
theorem dX8_row_49 : decode cX8_row 49 = .ok (.getfield 7, 3) := by decide +kernel
theorem dX8_row_52 : decode cX8_row 52 = .ok (.iload_n 1, 1) := by decide +kernel
theorem dX8_row_53 : decode cX8_row 53 = .ok (.iload_n 2, 1) := by decide +kernel
theorem dX8_row_54 : decode cX8_row 54 = .ok (.iastore, 1) := by decide +kernel
theorem dX8_row_55 : decode cX8_row 55 = .ok (.aload_n 0, 1) := by decide +kernel
theorem dX8_row_56 : decode cX8_row 56 = .ok (.getfield 13, 3) := by decide +kernel
theorem dX8_row_59 : decode cX8_row 59 = .ok (.iload_n 1, 1) := by decide +kernel
theorem dX8_row_60 : decode cX8_row 60 = .ok (.iload_n 3, 1) := by decide +kernel
theorem dX8_row_61 : decode cX8_row 61 = .ok (.iastore, 1) := by decide +kernel
theorem dX8_row_62 : decode cX8_row 62 = .ok (.iconst 0, 1) := by decide +kernel
theorem dX8_row_63 : decode cX8_row 63 = .ok (.istore 4, 2) := by decide +kernel
theorem dX8_row_65 : decode cX8_row 65 = .ok (.iload 4, 2) := by decide +kernel
theorem dX8_row_67 : decode cX8_row 67 = .ok (.bipush 40, 2) := by decide +kernel
theorem dX8_row_69 : decode cX8_row 69 = .ok (.if_icmp .ge 22, 3) := by decide +kernel
theorem dX8_row_72 : decode cX8_row 72 = .ok (.aload_n 0, 1) := by decide +kernel
theorem dX8_row_73 : decode cX8_row 73 = .ok (.getfield 16, 3) := by decide +kernel
theorem dX8_row_76 : decode cX8_row 76 = .ok (.bipush 40, 2) := by decide +kernel
theorem dX8_row_78 : decode cX8_row 78 = .ok (.iload_n 1, 1) := by decide +kernel
theorem dX8_row_79 : decode cX8_row 79 = .ok (.imul, 1) := by decide +kernel
theorem dX8_row_80 : decode cX8_row 80 = .ok (.iload 4, 2) := by decide +kernel
theorem dX8_row_82 : decode cX8_row 82 = .ok (.iadd, 1) := by decide +kernel
theorem dX8_row_83 : decode cX8_row 83 = .ok (.iconst 0, 1) := by decide +kernel
theorem dX8_row_84 : decode cX8_row 84 = .ok (.iastore, 1) := by decide +kernel
theorem dX8_row_85 : decode cX8_row 85 = .ok (.iinc 4 1, 3) := by decide +kernel
theorem dX8_row_88 : decode cX8_row 88 = .ok (.goto (-23), 3) := by decide +kernel
theorem dX8_row_91 : decode cX8_row 91 = .ok (.iload_n 3, 1) := by decide +kernel
theorem dX8_row_92 : decode cX8_row 92 = .ok (.ireturn, 1) := by decide +kernel
theorem dX8_set_0 : decode cX8_set 0 = .ok (.aload_n 0, 1) := by decide +kernel
theorem dX8_set_1 : decode cX8_set 1 = .ok (.iconst 0, 1) := by decide +kernel
theorem dX8_set_2 : decode cX8_set 2 = .ok (.putfield 68, 3) := by decide +kernel
theorem dX8_set_5 : decode cX8_set 5 = .ok (.iload_n 1, 1) := by decide +kernel
theorem dX8_set_6 : decode cX8_set 6 = .ok (.invokestatic 82, 3) := by decide +kernel
theorem dX8_set_9 : decode cX8_set 9 = .ok (.ifCond .ne 6, 3) := by decide +kernel
theorem dX8_set_12 : decode cX8_set 12 = .ok (.ldc 88, 2) := by decide +kernel
theorem dX8_set_14 : decode cX8_set 14 = .ok (.ireturn, 1) := by decide +kernel
theorem dX8_set_15 : decode cX8_set 15 = .ok (.aload_n 0, 1) := by decide +kernel
theorem dX8_set_16 : decode cX8_set 16 = .ok (.iconst 0, 1) := by decide +kernel
theorem dX8_set_17 : decode cX8_set 17 = .ok (.putfield 72, 3) := by decide +kernel
theorem dX8_set_20 : decode cX8_set 20 = .ok (.aload_n 0, 1) := by decide +kernel
theorem dX8_set_21 : decode cX8_set 21 = .ok (.getfield 7, 3) := by decide +kernel
theorem dX8_set_24 : decode cX8_set 24 = .ok (.iload_n 1, 1) := by decide +kernel
theorem dX8_set_25 : decode cX8_set 25 = .ok (.iaload, 1) := by decide +kernel
theorem dX8_set_26 : decode cX8_set 26 = .ok (.ifCond .ge 9, 3) := by decide +kernel
theorem dX8_set_29 : decode cX8_set 29 = .ok (.aload_n 0, 1) := by decide +kernel
theorem dX8_set_30 : decode cX8_set 30 = .ok (.iconst 1, 1) := by decide +kernel
theorem dX8_set_31 : decode cX8_set 31 = .ok (.invokevirtual 89, 3) := by decide +kernel
theorem dX8_set_34 : decode cX8_set 34 = .ok (.ireturn, 1) := by decide +kernel
theorem dX8_set_35 : decode cX8_set 35 = .ok (.iload_n 2, 1) := by decide +kernel
theorem dX8_set_36 : decode cX8_set 36 = .ok (.i2l, 1) := by decide +kernel
theorem dX8_set_37 : decode cX8_set 37 = .ok (.lconst 0, 1) := by decide +kernel
theorem dX8_set_38 : decode cX8_set 38 = .ok (.aload_n 0, 1) := by decide +kernel
theorem dX8_set_39 : decode cX8_set 39 = .ok (.getfield 13, 3) := by decide +kernel
theorem dX8_set_42 : decode cX8_set 42 = .ok (.iload_n 1, 1) := by decide +kernel
theorem dX8_set_43 : decode cX8_set 43 = .ok (.iaload, 1) := by decide +kernel
theorem dX8_set_44 : decode cX8_set 44 = .ok (.iconst 1, 1) := by decide +kernel
theorem dX8_set_45 : decode cX8_set 45 = .ok (.isub, 1) := by decide +kernel
theorem dX8_set_46 : decode cX8_set 46 = .ok (.i2l, 1) := by decide +kernel
theorem dX8_set_47 : decode cX8_set 47 = .ok (.invokestatic 78, 3) := by decide +kernel
theorem dX8_set_50 : decode cX8_set 50 = .ok (.ifCond .ne 9, 3) := by decide +kernel
theorem dX8_set_53 : decode cX8_set 53 = .ok (.aload_n 0, 1) := by decide +kernel
theorem dX8_set_54 : decode cX8_set 54 = .ok (.iconst 2, 1) := by decide +kernel
theorem dX8_set_55 : decode cX8_set 55 = .ok (.invokevirtual 89, 3) := by decide +kernel
theorem dX8_set_58 : decode cX8_set 58 = .ok (.ireturn, 1) := by decide +kernel
theorem dX8_set_59 : decode cX8_set 59 = .ok (.aload_n 0, 1) := by decide +kernel
theorem dX8_set_60 : decode cX8_set 60 = .ok (.getfield 16, 3) := by decide +kernel
theorem dX8_set_63 : decode cX8_set 63 = .ok (.bipush 40, 2) := by decide +kernel
theorem dX8_set_65 : decode cX8_set 65 = .ok (.iload_n 1, 1) := by decide +kernel
theorem dX8_set_66 : decode cX8_set 66 = .ok (.imul, 1) := by decide +kernel
theorem dX8_set_67 : decode cX8_set 67 = .ok (.iload_n 2, 1) := by decide +kernel
theorem dX8_set_68 : decode cX8_set 68 = .ok (.iadd, 1) := by decide +kernel
theorem dX8_set_69 : decode cX8_set 69 = .ok (.aload_n 0, 1) := by decide +kernel
theorem dX8_set_70 : decode cX8_set 70 = .ok (.getfield 7, 3) := by decide +kernel
theorem dX8_set_73 : decode cX8_set 73 = .ok (.iload_n 1, 1) := by decide +kernel
theorem dX8_set_74 : decode cX8_set 74 = .ok (.iaload, 1) := by decide +kernel
theorem dX8_set_75 : decode cX8_set 75 = .ok (.ifCond .ne 8, 3) := by decide +kernel
theorem dX8_set_78 : decode cX8_set 78 = .ok (.iload_n 3, 1) := by decide +kernel
theorem dX8_set_79 : decode cX8_set 79 = .ok (.i2b, 1) := by decide +kernel
theorem dX8_set_80 : decode cX8_set 80 = .ok (.goto 19, 3) := by decide +kernel
theorem dX8_set_83 : decode cX8_set 83 = .ok (.aload_n 0, 1) := by decide +kernel
theorem dX8_set_84 : decode cX8_set 84 = .ok (.getfield 7, 3) := by decide +kernel
theorem dX8_set_87 : decode cX8_set 87 = .ok (.iload_n 1, 1) := by decide +kernel
theorem dX8_set_88 : decode cX8_set 88 = .ok (.iaload, 1) := by decide +kernel
theorem dX8_set_89 : decode cX8_set 89 = .ok (.iconst 1, 1) := by decide +kernel
theorem dX8_set_90 : decode cX8_set 90 = .ok (.if_icmp .ne 8, 3) := by decide +kernel
theorem dX8_set_93 : decode cX8_set 93 = .ok (.iload_n 3, 1) := by decide +kernel
theorem dX8_set_94 : decode cX8_set 94 = .ok (.i2s, 1) := by decide +kernel
theorem dX8_set_95 : decode cX8_set 95 = .ok (.goto 4, 3) := by decide +kernel
theorem dX8_set_98 : decode cX8_set 98 = .ok (.iload_n 3, 1) := by decide +kernel
theorem dX8_set_99 : decode cX8_set 99 = .ok (.iastore, 1) := by decide +kernel
theorem dX8_set_100 : decode cX8_set 100 = .ok (.aload_n 0, 1) := by decide +kernel
theorem dX8_set_101 : decode cX8_set 101 = .ok (.getfield 16, 3) := by decide +kernel
theorem dX8_set_104 : decode cX8_set 104 = .ok (.bipush 40, 2) := by decide +kernel
theorem dX8_set_106 : decode cX8_set 106 = .ok (.iload_n 1, 1) := by decide +kernel
theorem dX8_set_107 : decode cX8_set 107 = .ok (.imul, 1) := by decide +kernel
theorem dX8_set_108 : decode cX8_set 108 = .ok (.iload_n 2, 1) := by decide +kernel
theorem dX8_set_109 : decode cX8_set 109 = .ok (.iadd, 1) := by decide +kernel
theorem dX8_set_110 : decode cX8_set 110 = .ok (.iaload, 1) := by decide +kernel
theorem dX8_set_111 : decode cX8_set 111 = .ok (.ireturn, 1) := by decide +kernel
theorem dX8_copy_0 : decode cX8_copy 0 = .ok (.aload_n 0, 1) := by decide +kernel
theorem dX8_copy_1 : decode cX8_copy 1 = .ok (.iconst 0, 1) := by decide +kernel
theorem dX8_copy_2 : decode cX8_copy 2 = .ok (.putfield 68, 3) := by decide +kernel
theorem dX8_copy_5 : decode cX8_copy 5 = .ok (.iload_n 1, 1) := by decide +kernel
theorem dX8_copy_6 : decode cX8_copy 6 = .ok (.invokestatic 82, 3) := by decide +kernel
theorem dX8_copy_9 : decode cX8_copy 9 = .ok (.ifCond .eq 10, 3) := by decide +kernel
theorem dX8_copy_12 : decode cX8_copy 12 = .ok (.iload_n 3, 1) := by decide +kernel
theorem dX8_copy_13 : decode cX8_copy 13 = .ok (.invokestatic 82, 3) := by decide +kernel
theorem dX8_copy_16 : decode cX8_copy 16 = .ok (.ifCond .ne 6, 3) := by decide +kernel
theorem dX8_copy_19 : decode cX8_copy 19 = .ok (.ldc 88, 2) := by decide +kernel
theorem dX8_copy_21 : decode cX8_copy 21 = .ok (.ireturn, 1) := by decide +kernel
theorem dX8_copy_22 : decode cX8_copy 22 = .ok (.aload_n 0, 1) := by decide +kernel
theorem dX8_copy_23 : decode cX8_copy 23 = .ok (.iconst 0, 1) := by decide +kernel
theorem dX8_copy_24 : decode cX8_copy 24 = .ok (.putfield 72, 3) := by decide +kernel
theorem dX8_copy_27 : decode cX8_copy 27 = .ok (.aload_n 0, 1) := by decide +kernel
theorem dX8_copy_28 : decode cX8_copy 28 = .ok (.getfield 7, 3) := by decide +kernel
theorem dX8_copy_31 : decode cX8_copy 31 = .ok (.iload_n 1, 1) := by decide +kernel
theorem dX8_copy_32 : decode cX8_copy 32 = .ok (.iaload, 1) := by decide +kernel
theorem dX8_copy_33 : decode cX8_copy 33 = .ok (.ifCond .lt 12, 3) := by decide +kernel
theorem dX8_copy_36 : decode cX8_copy 36 = .ok (.aload_n 0, 1) := by decide +kernel
theorem dX8_copy_37 : decode cX8_copy 37 = .ok (.getfield 7, 3) := by decide +kernel
theorem dX8_copy_40 : decode cX8_copy 40 = .ok (.iload_n 3, 1) := by decide +kernel
theorem dX8_copy_41 : decode cX8_copy 41 = .ok (.iaload, 1) := by decide +kernel
theorem dX8_copy_42 : decode cX8_copy 42 = .ok (.ifCond .ge 9, 3) := by decide +kernel
theorem dX8_copy_45 : decode cX8_copy 45 = .ok (.aload_n 0, 1) := by decide +kernel
theorem dX8_copy_46 : decode cX8_copy 46 = .ok (.iconst 1, 1) := by decide +kernel
theorem dX8_copy_47 : decode cX8_copy 47 = .ok (.invokevirtual 89, 3) := by decide +kernel
theorem dX8_copy_50 : decode cX8_copy 50 = .ok (.ireturn, 1) := by decide +kernel
theorem dX8_copy_51 : decode cX8_copy 51 = .ok (.aload_n 0, 1) := by decide +kernel
theorem dX8_copy_52 : decode cX8_copy 52 = .ok (.getfield 7, 3) := by decide +kernel
theorem dX8_copy_55 : decode cX8_copy 55 = .ok (.iload_n 1, 1) := by decide +kernel
theorem dX8_copy_56 : decode cX8_copy 56 = .ok (.iaload, 1) := by decide +kernel
theorem dX8_copy_57 : decode cX8_copy 57 = .ok (.aload_n 0, 1) := by decide +kernel
theorem dX8_copy_58 : decode cX8_copy 58 = .ok (.getfield 7, 3) := by decide +kernel
theorem dX8_copy_61 : decode cX8_copy 61 = .ok (.iload_n 3, 1) := by decide +kernel
theorem dX8_copy_62 : decode cX8_copy 62 = .ok (.iaload, 1) := by decide +kernel
theorem dX8_copy_63 : decode cX8_copy 63 = .ok (.if_icmp .eq 9, 3) := by decide +kernel
theorem dX8_copy_66 : decode cX8_copy 66 = .ok (.aload_n 0, 1) := by decide +kernel
theorem dX8_copy_67 : decode cX8_copy 67 = .ok (.iconst 5, 1) := by decide +kernel
theorem dX8_copy_68 : decode cX8_copy 68 = .ok (.invokevirtual 89, 3) := by decide +kernel
theorem dX8_copy_71 : decode cX8_copy 71 = .ok (.ireturn, 1) := by decide +kernel
theorem dX8_copy_72 : decode cX8_copy 72 = .ok (.iload_n 2, 1) := by decide +kernel
theorem dX8_copy_73 : decode cX8_copy 73 = .ok (.ifCond .lt 48, 3) := by decide +kernel
theorem dX8_copy_76 : decode cX8_copy 76 = .ok (.iload 4, 2) := by decide +kernel
theorem dX8_copy_78 : decode cX8_copy 78 = .ok (.ifCond .lt 43, 3) := by decide +kernel
theorem dX8_copy_81 : decode cX8_copy 81 = .ok (.iload 5, 2) := by decide +kernel
theorem dX8_copy_83 : decode cX8_copy 83 = .ok (.ifCond .lt 38, 3) := by decide +kernel
theorem dX8_copy_86 : decode cX8_copy 86 = .ok (.iload_n 2, 1) := by decide +kernel
theorem dX8_copy_87 : decode cX8_copy 87 = .ok (.i2l, 1) := by decide +kernel
theorem dX8_copy_88 : decode cX8_copy 88 = .ok (.iload 5, 2) := by decide +kernel
theorem dX8_copy_90 : decode cX8_copy 90 = .ok (.i2l, 1) := by decide +kernel
theorem dX8_copy_91 : decode cX8_copy 91 = .ok (.ladd, 1) := by decide +kernel
theorem dX8_copy_92 : decode cX8_copy 92 = .ok (.aload_n 0, 1) := by decide +kernel
theorem dX8_copy_93 : decode cX8_copy 93 = .ok (.getfield 13, 3) := by decide +kernel
theorem dX8_copy_96 : decode cX8_copy 96 = .ok (.iload_n 1, 1) := by decide +kernel
theorem dX8_copy_97 : decode cX8_copy 97 = .ok (.iaload, 1) := by decide +kernel
theorem dX8_copy_98 : decode cX8_copy 98 = .ok (.i2l, 1) := by decide +kernel
theorem dX8_copy_99 : decode cX8_copy 99 = .ok (.lcmp, 1) := by decide +kernel
theorem dX8_copy_100 : decode cX8_copy 100 = .ok (.ifCond .gt 21, 3) := by decide +kernel
theorem dX8_copy_103 : decode cX8_copy 103 = .ok (.iload 4, 2) := by decide +kernel
theorem dX8_copy_105 : decode cX8_copy 105 = .ok (.i2l, 1) := by decide +kernel
theorem dX8_copy_106 : decode cX8_copy 106 = .ok (.iload 5, 2) := by decide +kernel
theorem dX8_copy_108 : decode cX8_copy 108 = .ok (.i2l, 1) := by decide +kernel
theorem dX8_copy_109 : decode cX8_copy 109 = .ok (.ladd, 1) := by decide +kernel
theorem dX8_copy_110 : decode cX8_copy 110 = .ok (.aload_n 0, 1) := by decide +kernel
theorem dX8_copy_111 : decode cX8_copy 111 = .ok (.getfield 13, 3) := by decide +kernel
theorem dX8_copy_114 : decode cX8_copy 114 = .ok (.iload_n 3, 1) := by decide +kernel
theorem dX8_copy_115 : decode cX8_copy 115 = .ok (.iaload, 1) := by decide +kernel
theorem dX8_copy_116 : decode cX8_copy 116 = .ok (.i2l, 1) := by decide +kernel
theorem dX8_copy_117 : decode cX8_copy 117 = .ok (.lcmp, 1) := by decide +kernel
theorem dX8_copy_118 : decode cX8_copy 118 = .ok (.ifCond .le 9, 3) := by decide +kernel
theorem dX8_copy_121 : decode cX8_copy 121 = .ok (.aload_n 0, 1) := by decide +kernel
theorem dX8_copy_122 : decode cX8_copy 122 = .ok (.iconst 2, 1) := by decide +kernel
theorem dX8_copy_123 : decode cX8_copy 123 = .ok (.invokevirtual 89, 3) := by decide +kernel
theorem dX8_copy_126 : decode cX8_copy 126 = .ok (.ireturn, 1) := by decide +kernel
theorem dX8_copy_127 : decode cX8_copy 127 = .ok (.iload_n 2, 1) := by decide +kernel
theorem dX8_copy_128 : decode cX8_copy 128 = .ok (.iload 4, 2) := by decide +kernel
theorem dX8_copy_130 : decode cX8_copy 130 = .ok (.if_icmp .lt 7, 3) := by decide +kernel
theorem dX8_copy_133 : decode cX8_copy 133 = .ok (.iconst 1, 1) := by decide +kernel
theorem dX8_copy_134 : decode cX8_copy 134 = .ok (.goto 4, 3) := by decide +kernel
theorem dX8_copy_137 : decode cX8_copy 137 = .ok (.iconst 0, 1) := by decide +kernel
theorem dX8_copy_138 : decode cX8_copy 138 = .ok (.istore 6, 2) := by decide +kernel
theorem dX8_copy_140 : decode cX8_copy 140 = .ok (.iconst 0, 1) := by decide +kernel
theorem dX8_copy_141 : decode cX8_copy 141 = .ok (.istore 7, 2) := by decide +kernel
theorem dX8_copy_143 : decode cX8_copy 143 = .ok (.iload 7, 2) := by decide +kernel
theorem dX8_copy_145 : decode cX8_copy 145 = .ok (.iload 5, 2) := by decide +kernel
theorem dX8_copy_147 : decode cX8_copy 147 = .ok (.if_icmp .ge 57, 3) := by decide +kernel
theorem dX8_copy_150 : decode cX8_copy 150 = .ok (.iload 6, 2) := by decide +kernel
theorem dX8_copy_152 : decode cX8_copy 152 = .ok (.ifCond .eq 8, 3) := by decide +kernel
theorem dX8_copy_155 : decode cX8_copy 155 = .ok (.iload 7, 2) := by decide +kernel
theorem dX8_copy_157 : decode cX8_copy 157 = .ok (.goto 10, 3) := by decide +kernel
theorem dX8_copy_160 : decode cX8_copy 160 = .ok (.iload 5, 2) := by decide +kernel
theorem dX8_copy_162 : decode cX8_copy 162 = .ok (.iconst 1, 1) := by decide +kernel
theorem dX8_copy_163 : decode cX8_copy 163 = .ok (.isub, 1) := by decide +kernel
theorem dX8_copy_164 : decode cX8_copy 164 = .ok (.iload 7, 2) := by decide +kernel
theorem dX8_copy_166 : decode cX8_copy 166 = .ok (.isub, 1) := by decide +kernel
theorem dX8_copy_167 : decode cX8_copy 167 = .ok (.istore 8, 2) := by decide +kernel
theorem dX8_copy_169 : decode cX8_copy 169 = .ok (.aload_n 0, 1) := by decide +kernel
theorem dX8_copy_170 : decode cX8_copy 170 = .ok (.getfield 16, 3) := by decide +kernel
theorem dX8_copy_173 : decode cX8_copy 173 = .ok (.bipush 40, 2) := by decide +kernel
theorem dX8_copy_175 : decode cX8_copy 175 = .ok (.iload_n 3, 1) := by decide +kernel
theorem dX8_copy_176 : decode cX8_copy 176 = .ok (.imul, 1) := by decide +kernel
theorem dX8_copy_177 : decode cX8_copy 177 = .ok (.iload 4, 2) := by decide +kernel
theorem dX8_copy_179 : decode cX8_copy 179 = .ok (.iadd, 1) := by decide +kernel
theorem dX8_copy_180 : decode cX8_copy 180 = .ok (.iload 8, 2) := by decide +kernel
theorem dX8_copy_182 : decode cX8_copy 182 = .ok (.iadd, 1) := by decide +kernel
theorem dX8_copy_183 : decode cX8_copy 183 = .ok (.aload_n 0, 1) := by decide +kernel
theorem dX8_copy_184 : decode cX8_copy 184 = .ok (.getfield 16, 3) := by decide +kernel
theorem dX8_copy_187 : decode cX8_copy 187 = .ok (.bipush 40, 2) := by decide +kernel
theorem dX8_copy_189 : decode cX8_copy 189 = .ok (.iload_n 1, 1) := by decide +kernel
theorem dX8_copy_190 : decode cX8_copy 190 = .ok (.imul, 1) := by decide +kernel
theorem dX8_copy_191 : decode cX8_copy 191 = .ok (.iload_n 2, 1) := by decide +kernel
theorem dX8_copy_192 : decode cX8_copy 192 = .ok (.iadd, 1) := by decide +kernel
theorem dX8_copy_193 : decode cX8_copy 193 = .ok (.iload 8, 2) := by decide +kernel
theorem dX8_copy_195 : decode cX8_copy 195 = .ok (.iadd, 1) := by decide +kernel
theorem dX8_copy_196 : decode cX8_copy 196 = .ok (.iaload, 1) := by decide +kernel
theorem dX8_copy_197 : decode cX8_copy 197 = .ok (.iastore, 1) := by decide +kernel
theorem dX8_copy_198 : decode cX8_copy 198 = .ok (.iinc 7 1, 3) := by decide +kernel
theorem dX8_copy_201 : decode cX8_copy 201 = .ok (.goto (-58), 3) := by decide +kernel
theorem dX8_copy_204 : decode cX8_copy 204 = .ok (.iload 5, 2) := by decide +kernel
theorem dX8_copy_206 : decode cX8_copy 206 = .ok (.ireturn, 1) := by decide +kernel
theorem dX8_drop_0 : decode cX8_drop 0 = .ok (.aload_n 0, 1) := by decide +kernel
theorem dX8_drop_1 : decode cX8_drop 1 = .ok (.iconst 0, 1) := by decide +kernel
theorem dX8_drop_2 : decode cX8_drop 2 = .ok (.putfield 68, 3) := by decide +kernel
theorem dX8_drop_5 : decode cX8_drop 5 = .ok (.iload_n 1, 1) := by decide +kernel
theorem dX8_drop_6 : decode cX8_drop 6 = .ok (.invokestatic 82, 3) := by decide +kernel
theorem dX8_drop_9 : decode cX8_drop 9 = .ok (.ifCond .ne 6, 3) := by decide +kernel
theorem dX8_drop_12 : decode cX8_drop 12 = .ok (.ldc 88, 2) := by decide +kernel
theorem dX8_drop_14 : decode cX8_drop 14 = .ok (.ireturn, 1) := by decide +kernel
theorem dX8_drop_15 : decode cX8_drop 15 = .ok (.aload_n 0, 1) := by decide +kernel
theorem dX8_drop_16 : decode cX8_drop 16 = .ok (.iconst 0, 1) := by decide +kernel
theorem dX8_drop_17 : decode cX8_drop 17 = .ok (.putfield 72, 3) := by decide +kernel
theorem dX8_drop_20 : decode cX8_drop 20 = .ok (.aload_n 0, 1) := by decide +kernel
theorem dX8_drop_21 : decode cX8_drop 21 = .ok (.getfield 7, 3) := by decide +kernel
theorem dX8_drop_24 : decode cX8_drop 24 = .ok (.iload_n 1, 1) := by decide +kernel
theorem dX8_drop_25 : decode cX8_drop 25 = .ok (.iaload, 1) := by decide +kernel
theorem dX8_drop_26 : decode cX8_drop 26 = .ok (.ifCond .ge 9, 3) := by decide +kernel
theorem dX8_drop_29 : decode cX8_drop 29 = .ok (.aload_n 0, 1) := by decide +kernel
theorem dX8_drop_30 : decode cX8_drop 30 = .ok (.iconst 1, 1) := by decide +kernel
theorem dX8_drop_31 : decode cX8_drop 31 = .ok (.invokevirtual 89, 3) := by decide +kernel
theorem dX8_drop_34 : decode cX8_drop 34 = .ok (.ireturn, 1) := by decide +kernel
theorem dX8_drop_35 : decode cX8_drop 35 = .ok (.aload_n 0, 1) := by decide +kernel
theorem dX8_drop_36 : decode cX8_drop 36 = .ok (.getfield 7, 3) := by decide +kernel
theorem dX8_drop_39 : decode cX8_drop 39 = .ok (.iload_n 1, 1) := by decide +kernel
theorem dX8_drop_40 : decode cX8_drop 40 = .ok (.iconst (-1), 1) := by decide +kernel
theorem dX8_drop_41 : decode cX8_drop 41 = .ok (.iastore, 1) := by decide +kernel
theorem dX8_drop_42 : decode cX8_drop 42 = .ok (.aload_n 0, 1) := by decide +kernel
theorem dX8_drop_43 : decode cX8_drop 43 = .ok (.getfield 13, 3) := by decide +kernel
theorem dX8_drop_46 : decode cX8_drop 46 = .ok (.iload_n 1, 1) := by decide +kernel
theorem dX8_drop_47 : decode cX8_drop 47 = .ok (.iaload, 1) := by decide +kernel
theorem dX8_drop_48 : decode cX8_drop 48 = .ok (.ireturn, 1) := by decide +kernel
theorem dX8_feed_0 : decode cX8_feed 0 = .ok (.aload_n 0, 1) := by decide +kernel
theorem dX8_feed_1 : decode cX8_feed 1 = .ok (.iconst 0, 1) := by decide +kernel
theorem dX8_feed_2 : decode cX8_feed 2 = .ok (.putfield 68, 3) := by decide +kernel
theorem dX8_feed_5 : decode cX8_feed 5 = .ok (.iload_n 3, 1) := by decide +kernel
theorem dX8_feed_6 : decode cX8_feed 6 = .ok (.i2l, 1) := by decide +kernel
theorem dX8_feed_7 : decode cX8_feed 7 = .ok (.lconst 1, 1) := by decide +kernel
theorem dX8_feed_8 : decode cX8_feed 8 = .ok (.ldc2_w 93, 3) := by decide +kernel
theorem dX8_feed_11 : decode cX8_feed 11 = .ok (.invokestatic 78, 3) := by decide +kernel
theorem dX8_feed_14 : decode cX8_feed 14 = .ok (.ifCond .ne 6, 3) := by decide +kernel
theorem dX8_feed_17 : decode cX8_feed 17 = .ok (.ldc 88, 2) := by decide +kernel
theorem dX8_feed_19 : decode cX8_feed 19 = .ok (.ireturn, 1) := by decide +kernel
theorem dX8_feed_20 : decode cX8_feed 20 = .ok (.aload_n 0, 1) := by decide +kernel
theorem dX8_feed_21 : decode cX8_feed 21 = .ok (.getfield 95, 3) := by decide +kernel
theorem dX8_feed_24 : decode cX8_feed 24 = .ok (.iload_n 3, 1) := by decide +kernel
theorem dX8_feed_25 : decode cX8_feed 25 = .ok (.iadd, 1) := by decide +kernel
theorem dX8_feed_26 : decode cX8_feed 26 = .ok (.sipush 500, 3) := by decide +kernel
theorem dX8_feed_29 : decode cX8_feed 29 = .ok (.if_icmp .le 6, 3) := by decide +kernel
theorem dX8_feed_32 : decode cX8_feed 32 = .ok (.ldc 98, 2) := by decide +kernel
theorem dX8_feed_34 : decode cX8_feed 34 = .ok (.ireturn, 1) := by decide +kernel
theorem dX8_feed_35 : decode cX8_feed 35 = .ok (.iload_n 3, 1) := by decide +kernel
theorem dX8_feed_36 : decode cX8_feed 36 = .ok (.iconst 1, 1) := by decide +kernel
theorem dX8_feed_37 : decode cX8_feed 37 = .ok (.isub, 1) := by decide +kernel
theorem dX8_feed_38 : decode cX8_feed 38 = .ok (.istore 4, 2) := by decide +kernel
theorem dX8_feed_40 : decode cX8_feed 40 = .ok (.iload 4, 2) := by decide +kernel
theorem dX8_feed_42 : decode cX8_feed 42 = .ok (.ifCond .lt 40, 3) := by decide +kernel
theorem dX8_feed_45 : decode cX8_feed 45 = .ok (.aload_n 0, 1) := by decide +kernel
theorem dX8_feed_46 : decode cX8_feed 46 = .ok (.getfield 31, 3) := by decide +kernel
theorem dX8_feed_49 : decode cX8_feed 49 = .ok (.aload_n 0, 1) := by decide +kernel
theorem dX8_feed_50 : decode cX8_feed 50 = .ok (.getfield 95, 3) := by decide +kernel
theorem dX8_feed_53 : decode cX8_feed 53 = .ok (.lload_n 1, 1) := by decide +kernel
theorem dX8_feed_54 : decode cX8_feed 54 = .ok (.bipush 8, 2) := by decide +kernel
theorem dX8_feed_56 : decode cX8_feed 56 = .ok (.iload 4, 2) := by decide +kernel
theorem dX8_feed_58 : decode cX8_feed 58 = .ok (.imul, 1) := by decide +kernel
theorem dX8_feed_59 : decode cX8_feed 59 = .ok (.lshr, 1) := by decide +kernel
theorem dX8_feed_60 : decode cX8_feed 60 = .ok (.ldc2_w 99, 3) := by decide +kernel
theorem dX8_feed_63 : decode cX8_feed 63 = .ok (.land, 1) := by decide +kernel
theorem dX8_feed_64 : decode cX8_feed 64 = .ok (.l2i, 1) := by decide +kernel
theorem dX8_feed_65 : decode cX8_feed 65 = .ok (.iastore, 1) := by decide +kernel
theorem dX8_feed_66 : decode cX8_feed 66 = .ok (.aload_n 0, 1) := by decide +kernel
theorem dX8_feed_67 : decode cX8_feed 67 = .ok (.dup, 1) := by decide +kernel
theorem dX8_feed_68 : decode cX8_feed 68 = .ok (.getfield 95, 3) := by decide +kernel
theorem dX8_feed_71 : decode cX8_feed 71 = .ok (.iconst 1, 1) := by decide +kernel
theorem dX8_feed_72 : decode cX8_feed 72 = .ok (.iadd, 1) := by decide +kernel
theorem dX8_feed_73 : decode cX8_feed 73 = .ok (.putfield 95, 3) := by decide +kernel
theorem dX8_feed_76 : decode cX8_feed 76 = .ok (.iinc 4 (-1), 3) := by decide +kernel
theorem dX8_feed_79 : decode cX8_feed 79 = .ok (.goto (-39), 3) := by decide +kernel
theorem dX8_feed_82 : decode cX8_feed 82 = .ok (.aload_n 0, 1) := by decide +kernel
theorem dX8_feed_83 : decode cX8_feed 83 = .ok (.getfield 95, 3) := by decide +kernel
theorem dX8_feed_86 : decode cX8_feed 86 = .ok (.ireturn, 1) := by decide +kernel
theorem dX8_byteAt_0 : decode cX8_byteAt 0 = .ok (.iload_n 1, 1) := by decide +kernel
theorem dX8_byteAt_1 : decode cX8_byteAt 1 = .ok (.aload_n 0, 1) := by decide +kernel
theorem dX8_byteAt_2 : decode cX8_byteAt 2 = .ok (.getfield 101, 3) := by decide +kernel
theorem dX8_byteAt_5 : decode cX8_byteAt 5 = .ok (.if_icmp .ge 12, 3) := by decide +kernel
theorem dX8_byteAt_8 : decode cX8_byteAt 8 = .ok (.aload_n 0, 1) := by decide +kernel
theorem dX8_byteAt_9 : decode cX8_byteAt 9 = .ok (.getfield 31, 3) := by decide +kernel
theorem dX8_byteAt_12 : decode cX8_byteAt 12 = .ok (.iload_n 1, 1) := by decide +kernel
theorem dX8_byteAt_13 : decode cX8_byteAt 13 = .ok (.iaload, 1) := by decide +kernel
theorem dX8_byteAt_14 : decode cX8_byteAt 14 = .ok (.goto 5, 3) := by decide +kernel
theorem dX8_byteAt_17 : decode cX8_byteAt 17 = .ok (.ldc 104, 2) := by decide +kernel
theorem dX8_byteAt_19 : decode cX8_byteAt 19 = .ok (.ireturn, 1) := by decide +kernel
theorem dX8_isLetter_0 : decode cX8_isLetter 0 = .ok (.iload_n 0, 1) := by decide +kernel
theorem dX8_isLetter_1 : decode cX8_isLetter 1 = .ok (.bipush 97, 2) := by decide +kernel
theorem dX8_isLetter_3 : decode cX8_isLetter 3 = .ok (.if_icmp .lt 13, 3) := by decide +kernel
theorem dX8_isLetter_6 : decode cX8_isLetter 6 = .ok (.iload_n 0, 1) := by decide +kernel
theorem dX8_isLetter_7 : decode cX8_isLetter 7 = .ok (.bipush 122, 2) := by decide +kernel
theorem dX8_isLetter_9 : decode cX8_isLetter 9 = .ok (.if_icmp .gt 7, 3) := by decide +kernel
theorem dX8_isLetter_12 : decode cX8_isLetter 12 = .ok (.iconst 1, 1) := by decide +kernel
theorem dX8_isLetter_13 : decode cX8_isLetter 13 = .ok (.goto 4, 3) := by decide +kernel
theorem dX8_isLetter_16 : decode cX8_isLetter 16 = .ok (.iconst 0, 1) := by decide +kernel
theorem dX8_isLetter_17 : decode cX8_isLetter 17 = .ok (.ireturn, 1) := by decide +kernel
theorem dX8_isFigure_0 : decode cX8_isFigure 0 = .ok (.iload_n 0, 1) := by decide +kernel
theorem dX8_isFigure_1 : decode cX8_isFigure 1 = .ok (.bipush 48, 2) := by decide +kernel
theorem dX8_isFigure_3 : decode cX8_isFigure 3 = .ok (.if_icmp .lt 13, 3) := by decide +kernel
theorem dX8_isFigure_6 : decode cX8_isFigure 6 = .ok (.iload_n 0, 1) := by decide +kernel
theorem dX8_isFigure_7 : decode cX8_isFigure 7 = .ok (.bipush 57, 2) := by decide +kernel
theorem dX8_isFigure_9 : decode cX8_isFigure 9 = .ok (.if_icmp .gt 7, 3) := by decide +kernel
theorem dX8_isFigure_12 : decode cX8_isFigure 12 = .ok (.iconst 1, 1) := by decide +kernel
theorem dX8_isFigure_13 : decode cX8_isFigure 13 = .ok (.goto 4, 3) := by decide +kernel
theorem dX8_isFigure_16 : decode cX8_isFigure 16 = .ok (.iconst 0, 1) := by decide +kernel
theorem dX8_isFigure_17 : decode cX8_isFigure 17 = .ok (.ireturn, 1) := by decide +kernel
theorem dX8_next_0 : decode cX8_next 0 = .ok (.aload_n 0, 1) := by decide +kernel
theorem dX8_next_1 : decode cX8_next 1 = .ok (.aload_n 0, 1) := by decide +kernel
theorem dX8_next_2 : decode cX8_next 2 = .ok (.getfield 105, 3) := by decide +kernel
theorem dX8_next_5 : decode cX8_next 5 = .ok (.invokevirtual 108, 3) := by decide +kernel
theorem dX8_next_8 : decode cX8_next 8 = .ok (.bipush 32, 2) := by decide +kernel
theorem dX8_next_10 : decode cX8_next 10 = .ok (.if_icmp .eq 16, 3) := by decide +kernel
theorem dX8_next_13 : decode cX8_next 13 = .ok (.aload_n 0, 1) := by decide +kernel
theorem dX8_next_14 : decode cX8_next 14 = .ok (.aload_n 0, 1) := by decide +kernel
theorem dX8_next_15 : decode cX8_next 15 = .ok (.getfield 105, 3) := by decide +kernel
theorem dX8_next_18 : decode cX8_next 18 = .ok (.invokevirtual 108, 3) := by decide +kernel
theorem dX8_next_21 : decode cX8_next 21 = .ok (.bipush 10, 2) := by decide +kernel
theorem dX8_next_23 : decode cX8_next 23 = .ok (.if_icmp .ne 16, 3) := by decide +kernel
theorem dX8_next_26 : decode cX8_next 26 = .ok (.aload_n 0, 1) := by decide +kernel
theorem dX8_next_27 : decode cX8_next 27 = .ok (.dup, 1) := by decide +kernel
theorem dX8_next_28 : decode cX8_next 28 = .ok (.getfield 105, 3) := by decide +kernel
theorem dX8_next_31 : decode cX8_next 31 = .ok (.iconst 1, 1) := by decide +kernel
theorem dX8_next_32 : decode cX8_next 32 = .ok (.iadd, 1) := by decide +kernel
theorem dX8_next_33 : decode cX8_next 33 = .ok (.putfield 105, 3) := by decide +kernel
theorem dX8_next_36 : decode cX8_next 36 = .ok (.goto (-36), 3) := by decide +kernel
theorem dX8_next_39 : decode cX8_next 39 = .ok (.aload_n 0, 1) := by decide +kernel
theorem dX8_next_40 : decode cX8_next 40 = .ok (.aload_n 0, 1) := by decide +kernel
theorem dX8_next_41 : decode cX8_next 41 = .ok (.getfield 105, 3) := by decide +kernel
theorem dX8_next_44 : decode cX8_next 44 = .ok (.putfield 111, 3) := by decide +kernel
theorem dX8_next_47 : decode cX8_next 47 = .ok (.aload_n 0, 1) := by decide +kernel
theorem dX8_next_48 : decode cX8_next 48 = .ok (.aload_n 0, 1) := by decide +kernel
theorem dX8_next_49 : decode cX8_next 49 = .ok (.getfield 105, 3) := by decide +kernel
theorem dX8_next_52 : decode cX8_next 52 = .ok (.invokevirtual 108, 3) := by decide +kernel
theorem dX8_next_55 : decode cX8_next 55 = .ok (.istore_n 1, 1) := by decide +kernel
theorem dX8_next_56 : decode cX8_next 56 = .ok (.iload_n 1, 1) := by decide +kernel
theorem dX8_next_57 : decode cX8_next 57 = .ok (.ldc 104, 2) := by decide +kernel
theorem dX8_next_59 : decode cX8_next 59 = .ok (.if_icmp .ne 11, 3) := by decide +kernel
theorem dX8_next_62 : decode cX8_next 62 = .ok (.aload_n 0, 1) := by decide +kernel
theorem dX8_next_63 : decode cX8_next 63 = .ok (.iconst 1, 1) := by decide +kernel
theorem dX8_next_64 : decode cX8_next 64 = .ok (.putfield 114, 3) := by decide +kernel
theorem dX8_next_67 : decode cX8_next 67 = .ok (.goto 129, 3) := by decide +kernel
theorem dX8_next_70 : decode cX8_next 70 = .ok (.iload_n 1, 1) := by decide +kernel
theorem dX8_next_71 : decode cX8_next 71 = .ok (.invokestatic 117, 3) := by decide +kernel
theorem dX8_next_74 : decode cX8_next 74 = .ok (.ifCond .eq 38, 3) := by decide +kernel
theorem dX8_next_77 : decode cX8_next 77 = .ok (.aload_n 0, 1) := by decide +kernel
theorem dX8_next_78 : decode cX8_next 78 = .ok (.aload_n 0, 1) := by decide +kernel
theorem dX8_next_79 : decode cX8_next 79 = .ok (.getfield 105, 3) := by decide +kernel
theorem dX8_next_82 : decode cX8_next 82 = .ok (.invokevirtual 108, 3) := by decide +kernel
theorem dX8_next_85 : decode cX8_next 85 = .ok (.invokestatic 117, 3) := by decide +kernel
theorem dX8_next_88 : decode cX8_next 88 = .ok (.ifCond .eq 16, 3) := by decide +kernel
theorem dX8_next_91 : decode cX8_next 91 = .ok (.aload_n 0, 1) := by decide +kernel
theorem dX8_next_92 : decode cX8_next 92 = .ok (.dup, 1) := by decide +kernel
theorem dX8_next_93 : decode cX8_next 93 = .ok (.getfield 105, 3) := by decide +kernel
theorem dX8_next_96 : decode cX8_next 96 = .ok (.iconst 1, 1) := by decide +kernel
theorem dX8_next_97 : decode cX8_next 97 = .ok (.iadd, 1) := by decide +kernel
theorem dX8_next_98 : decode cX8_next 98 = .ok (.putfield 105, 3) := by decide +kernel
theorem dX8_next_101 : decode cX8_next 101 = .ok (.goto (-24), 3) := by decide +kernel
theorem dX8_next_104 : decode cX8_next 104 = .ok (.aload_n 0, 1) := by decide +kernel
theorem dX8_next_105 : decode cX8_next 105 = .ok (.iconst 2, 1) := by decide +kernel
theorem dX8_next_106 : decode cX8_next 106 = .ok (.putfield 114, 3) := by decide +kernel
theorem dX8_next_109 : decode cX8_next 109 = .ok (.goto 87, 3) := by decide +kernel
theorem dX8_next_112 : decode cX8_next 112 = .ok (.iload_n 1, 1) := by decide +kernel
theorem dX8_next_113 : decode cX8_next 113 = .ok (.invokestatic 120, 3) := by decide +kernel
theorem dX8_next_116 : decode cX8_next 116 = .ok (.ifCond .eq 55, 3) := by decide +kernel
theorem dX8_next_119 : decode cX8_next 119 = .ok (.aload_n 0, 1) := by decide +kernel
theorem dX8_next_120 : decode cX8_next 120 = .ok (.aload_n 0, 1) := by decide +kernel
theorem dX8_next_121 : decode cX8_next 121 = .ok (.getfield 105, 3) := by decide +kernel
theorem dX8_next_124 : decode cX8_next 124 = .ok (.invokevirtual 108, 3) := by decide +kernel
theorem dX8_next_127 : decode cX8_next 127 = .ok (.invokestatic 120, 3) := by decide +kernel
theorem dX8_next_130 : decode cX8_next 130 = .ok (.ifCond .eq 16, 3) := by decide +kernel
theorem dX8_next_133 : decode cX8_next 133 = .ok (.aload_n 0, 1) := by decide +kernel
theorem dX8_next_134 : decode cX8_next 134 = .ok (.dup, 1) := by decide +kernel
theorem dX8_next_135 : decode cX8_next 135 = .ok (.getfield 105, 3) := by decide +kernel
theorem dX8_next_138 : decode cX8_next 138 = .ok (.iconst 1, 1) := by decide +kernel
theorem dX8_next_139 : decode cX8_next 139 = .ok (.iadd, 1) := by decide +kernel
theorem dX8_next_140 : decode cX8_next 140 = .ok (.putfield 105, 3) := by decide +kernel
theorem dX8_next_143 : decode cX8_next 143 = .ok (.goto (-24), 3) := by decide +kernel
theorem dX8_next_146 : decode cX8_next 146 = .ok (.aload_n 0, 1) := by decide +kernel
theorem dX8_next_147 : decode cX8_next 147 = .ok (.aload_n 0, 1) := by decide +kernel
theorem dX8_next_148 : decode cX8_next 148 = .ok (.getfield 105, 3) := by decide +kernel
theorem dX8_next_151 : decode cX8_next 151 = .ok (.aload_n 0, 1) := by decide +kernel
theorem dX8_next_152 : decode cX8_next 152 = .ok (.getfield 111, 3) := by decide +kernel
theorem dX8_next_155 : decode cX8_next 155 = .ok (.isub, 1) := by decide +kernel
theorem dX8_next_156 : decode cX8_next 156 = .ok (.iconst 3, 1) := by decide +kernel
theorem dX8_next_157 : decode cX8_next 157 = .ok (.if_icmp .le 7, 3) := by decide +kernel
theorem dX8_next_160 : decode cX8_next 160 = .ok (.iconst 0, 1) := by decide +kernel
theorem dX8_next_161 : decode cX8_next 161 = .ok (.goto 4, 3) := by decide +kernel
theorem dX8_next_164 : decode cX8_next 164 = .ok (.iconst 3, 1) := by decide +kernel
theorem dX8_next_165 : decode cX8_next 165 = .ok (.putfield 114, 3) := by decide +kernel
theorem dX8_next_168 : decode cX8_next 168 = .ok (.goto 28, 3) := by decide +kernel
theorem dX8_next_171 : decode cX8_next 171 = .ok (.aload_n 0, 1) := by decide +kernel
theorem dX8_next_172 : decode cX8_next 172 = .ok (.dup, 1) := by decide +kernel
theorem dX8_next_173 : decode cX8_next 173 = .ok (.getfield 105, 3) := by decide +kernel
theorem dX8_next_176 : decode cX8_next 176 = .ok (.iconst 1, 1) := by decide +kernel
theorem dX8_next_177 : decode cX8_next 177 = .ok (.iadd, 1) := by decide +kernel
theorem dX8_next_178 : decode cX8_next 178 = .ok (.putfield 105, 3) := by decide +kernel
theorem dX8_next_181 : decode cX8_next 181 = .ok (.aload_n 0, 1) := by decide +kernel
theorem dX8_next_182 : decode cX8_next 182 = .ok (.iload_n 1, 1) := by decide +kernel
theorem dX8_next_183 : decode cX8_next 183 = .ok (.bipush 59, 2) := by decide +kernel
theorem dX8_next_185 : decode cX8_next 185 = .ok (.if_icmp .ne 7, 3) := by decide +kernel
theorem dX8_next_188 : decode cX8_next 188 = .ok (.iconst 4, 1) := by decide +kernel
theorem dX8_next_189 : decode cX8_next 189 = .ok (.goto 4, 3) := by decide +kernel
theorem dX8_next_192 : decode cX8_next 192 = .ok (.iconst 0, 1) := by decide +kernel
theorem dX8_next_193 : decode cX8_next 193 = .ok (.putfield 114, 3) := by decide +kernel
theorem dX8_next_196 : decode cX8_next 196 = .ok (.aload_n 0, 1) := by decide +kernel
theorem dX8_next_197 : decode cX8_next 197 = .ok (.aload_n 0, 1) := by decide +kernel
theorem dX8_next_198 : decode cX8_next 198 = .ok (.getfield 105, 3) := by decide +kernel
theorem dX8_next_201 : decode cX8_next 201 = .ok (.putfield 123, 3) := by decide +kernel
theorem dX8_next_204 : decode cX8_next 204 = .ok (.return_, 1) := by decide +kernel
theorem dX8_begin_0 : decode cX8_begin 0 = .ok (.aload_n 0, 1) := by decide +kernel
theorem dX8_begin_1 : decode cX8_begin 1 = .ok (.aload_n 0, 1) := by decide +kernel
theorem dX8_begin_2 : decode cX8_begin 2 = .ok (.getfield 95, 3) := by decide +kernel
theorem dX8_begin_5 : decode cX8_begin 5 = .ok (.putfield 101, 3) := by decide +kernel
theorem dX8_begin_8 : decode cX8_begin 8 = .ok (.aload_n 0, 1) := by decide +kernel
theorem dX8_begin_9 : decode cX8_begin 9 = .ok (.iconst 0, 1) := by decide +kernel
theorem dX8_begin_10 : decode cX8_begin 10 = .ok (.putfield 95, 3) := by decide +kernel
theorem dX8_begin_13 : decode cX8_begin 13 = .ok (.aload_n 0, 1) := by decide +kernel
theorem dX8_begin_14 : decode cX8_begin 14 = .ok (.iconst 0, 1) := by decide +kernel
theorem dX8_begin_15 : decode cX8_begin 15 = .ok (.putfield 105, 3) := by decide +kernel
theorem dX8_begin_18 : decode cX8_begin 18 = .ok (.aload_n 0, 1) := by decide +kernel
theorem dX8_begin_19 : decode cX8_begin 19 = .ok (.iconst 0, 1) := by decide +kernel
theorem dX8_begin_20 : decode cX8_begin 20 = .ok (.putfield 126, 3) := by decide +kernel
theorem dX8_begin_23 : decode cX8_begin 23 = .ok (.aload_n 0, 1) := by decide +kernel
theorem dX8_begin_24 : decode cX8_begin 24 = .ok (.invokevirtual 129, 3) := by decide +kernel
theorem dX8_begin_27 : decode cX8_begin 27 = .ok (.return_, 1) := by decide +kernel
theorem dX8_bad_0 : decode cX8_bad 0 = .ok (.aload_n 0, 1) := by decide +kernel
theorem dX8_bad_1 : decode cX8_bad 1 = .ok (.getfield 126, 3) := by decide +kernel
theorem dX8_bad_4 : decode cX8_bad 4 = .ok (.ifCond .ne 16, 3) := by decide +kernel
theorem dX8_bad_7 : decode cX8_bad 7 = .ok (.aload_n 0, 1) := by decide +kernel
theorem dX8_bad_8 : decode cX8_bad 8 = .ok (.iload_n 1, 1) := by decide +kernel
theorem dX8_bad_9 : decode cX8_bad 9 = .ok (.putfield 126, 3) := by decide +kernel
theorem dX8_bad_12 : decode cX8_bad 12 = .ok (.aload_n 0, 1) := by decide +kernel
theorem dX8_bad_13 : decode cX8_bad 13 = .ok (.aload_n 0, 1) := by decide +kernel
theorem dX8_bad_14 : decode cX8_bad 14 = .ok (.getfield 111, 3) := by decide +kernel
theorem dX8_bad_17 : decode cX8_bad 17 = .ok (.putfield 132, 3) := by decide +kernel
theorem dX8_bad_20 : decode cX8_bad 20 = .ok (.return_, 1) := by decide +kernel
theorem dX8_must_0 : decode cX8_must 0 = .ok (.iload_n 1, 1) := by decide +kernel
theorem dX8_must_1 : decode cX8_must 1 = .ok (.ifCond .ne 8, 3) := by decide +kernel
theorem dX8_must_4 : decode cX8_must 4 = .ok (.aload_n 0, 1) := by decide +kernel
theorem dX8_must_5 : decode cX8_must 5 = .ok (.iconst 1, 1) := by decide +kernel
theorem dX8_must_6 : decode cX8_must 6 = .ok (.invokevirtual 135, 3) := by decide +kernel
theorem dX8_must_9 : decode cX8_must 9 = .ok (.aload_n 0, 1) := by decide +kernel
theorem dX8_must_10 : decode cX8_must 10 = .ok (.getfield 126, 3) := by decide +kernel
theorem dX8_must_13 : decode cX8_must 13 = .ok (.ifCond .ne 7, 3) := by decide +kernel
theorem dX8_must_16 : decode cX8_must 16 = .ok (.aload_n 0, 1) := by decide +kernel
theorem dX8_must_17 : decode cX8_must 17 = .ok (.invokevirtual 129, 3) := by decide +kernel
theorem dX8_must_20 : decode cX8_must 20 = .ok (.return_, 1) := by decide +kernel
theorem dX8_name_0 : decode cX8_name 0 = .ok (.lconst 0, 1) := by decide +kernel
theorem dX8_name_1 : decode cX8_name 1 = .ok (.lstore_n 1, 1) := by decide +kernel
theorem dX8_name_2 : decode cX8_name 2 = .ok (.aload_n 0, 1) := by decide +kernel
theorem dX8_name_3 : decode cX8_name 3 = .ok (.getfield 111, 3) := by decide +kernel
theorem dX8_name_6 : decode cX8_name 6 = .ok (.istore_n 3, 1) := by decide +kernel
theorem dX8_name_7 : decode cX8_name 7 = .ok (.iload_n 3, 1) := by decide +kernel
theorem dX8_name_8 : decode cX8_name 8 = .ok (.aload_n 0, 1) := by decide +kernel
theorem dX8_name_9 : decode cX8_name 9 = .ok (.getfield 123, 3) := by decide +kernel
theorem dX8_name_12 : decode cX8_name 12 = .ok (.if_icmp .ge 44, 3) := by decide +kernel
theorem dX8_name_15 : decode cX8_name 15 = .ok (.aload_n 0, 1) := by decide +kernel
theorem dX8_name_16 : decode cX8_name 16 = .ok (.getfield 114, 3) := by decide +kernel
theorem dX8_name_19 : decode cX8_name 19 = .ok (.iconst 2, 1) := by decide +kernel
theorem dX8_name_20 : decode cX8_name 20 = .ok (.if_icmp .ne 36, 3) := by decide +kernel
theorem dX8_name_23 : decode cX8_name 23 = .ok (.aload_n 0, 1) := by decide +kernel
theorem dX8_name_24 : decode cX8_name 24 = .ok (.getfield 123, 3) := by decide +kernel
theorem dX8_name_27 : decode cX8_name 27 = .ok (.aload_n 0, 1) := by decide +kernel
theorem dX8_name_28 : decode cX8_name 28 = .ok (.getfield 111, 3) := by decide +kernel
theorem dX8_name_31 : decode cX8_name 31 = .ok (.isub, 1) := by decide +kernel
theorem dX8_name_32 : decode cX8_name 32 = .ok (.bipush 9, 2) := by decide +kernel
theorem dX8_name_34 : decode cX8_name 34 = .ok (.if_icmp .ge 22, 3) := by decide +kernel
theorem dX8_name_37 : decode cX8_name 37 = .ok (.lload_n 1, 1) := by decide +kernel
theorem dX8_name_38 : decode cX8_name 38 = .ok (.bipush 8, 2) := by decide +kernel
theorem dX8_name_40 : decode cX8_name 40 = .ok (.lshl, 1) := by decide +kernel
theorem dX8_name_41 : decode cX8_name 41 = .ok (.aload_n 0, 1) := by decide +kernel
theorem dX8_name_42 : decode cX8_name 42 = .ok (.getfield 31, 3) := by decide +kernel
theorem dX8_name_45 : decode cX8_name 45 = .ok (.iload_n 3, 1) := by decide +kernel
theorem dX8_name_46 : decode cX8_name 46 = .ok (.iaload, 1) := by decide +kernel
theorem dX8_name_47 : decode cX8_name 47 = .ok (.i2l, 1) := by decide +kernel
theorem dX8_name_48 : decode cX8_name 48 = .ok (.lor, 1) := by decide +kernel
theorem dX8_name_49 : decode cX8_name 49 = .ok (.lstore_n 1, 1) := by decide +kernel
theorem dX8_name_50 : decode cX8_name 50 = .ok (.iinc 3 1, 3) := by decide +kernel
theorem dX8_name_53 : decode cX8_name 53 = .ok (.goto (-46), 3) := by decide +kernel
theorem dX8_name_56 : decode cX8_name 56 = .ok (.aload_n 0, 1) := by decide +kernel
theorem dX8_name_57 : decode cX8_name 57 = .ok (.getfield 126, 3) := by decide +kernel
theorem dX8_name_60 : decode cX8_name 60 = .ok (.ifCond .ne 7, 3) := by decide +kernel
theorem dX8_name_63 : decode cX8_name 63 = .ok (.lload_n 1, 1) := by decide +kernel
theorem dX8_name_64 : decode cX8_name 64 = .ok (.goto 4, 3) := by decide +kernel
theorem dX8_name_67 : decode cX8_name 67 = .ok (.lconst 0, 1) := by decide +kernel
theorem dX8_name_68 : decode cX8_name 68 = .ok (.lreturn, 1) := by decide +kernel
theorem dX8_figures_0 : decode cX8_figures 0 = .ok (.iconst 0, 1) := by decide +kernel
theorem dX8_figures_1 : decode cX8_figures 1 = .ok (.istore_n 1, 1) := by decide +kernel
theorem dX8_figures_2 : decode cX8_figures 2 = .ok (.aload_n 0, 1) := by decide +kernel
theorem dX8_figures_3 : decode cX8_figures 3 = .ok (.getfield 111, 3) := by decide +kernel
theorem dX8_figures_6 : decode cX8_figures 6 = .ok (.istore_n 2, 1) := by decide +kernel
theorem dX8_figures_7 : decode cX8_figures 7 = .ok (.iload_n 2, 1) := by decide +kernel
theorem dX8_figures_8 : decode cX8_figures 8 = .ok (.aload_n 0, 1) := by decide +kernel
theorem dX8_figures_9 : decode cX8_figures 9 = .ok (.getfield 123, 3) := by decide +kernel
theorem dX8_figures_12 : decode cX8_figures 12 = .ok (.if_icmp .ge 32, 3) := by decide +kernel
theorem dX8_figures_15 : decode cX8_figures 15 = .ok (.aload_n 0, 1) := by decide +kernel
theorem dX8_figures_16 : decode cX8_figures 16 = .ok (.getfield 114, 3) := by decide +kernel
theorem dX8_figures_19 : decode cX8_figures 19 = .ok (.iconst 3, 1) := by decide +kernel
theorem dX8_figures_20 : decode cX8_figures 20 = .ok (.if_icmp .ne 24, 3) := by decide +kernel
theorem dX8_figures_23 : decode cX8_figures 23 = .ok (.bipush 10, 2) := by decide +kernel
theorem dX8_figures_25 : decode cX8_figures 25 = .ok (.iload_n 1, 1) := by decide +kernel
theorem dX8_figures_26 : decode cX8_figures 26 = .ok (.imul, 1) := by decide +kernel
theorem dX8_figures_27 : decode cX8_figures 27 = .ok (.aload_n 0, 1) := by decide +kernel
theorem dX8_figures_28 : decode cX8_figures 28 = .ok (.getfield 31, 3) := by decide +kernel
theorem dX8_figures_31 : decode cX8_figures 31 = .ok (.iload_n 2, 1) := by decide +kernel
theorem dX8_figures_32 : decode cX8_figures 32 = .ok (.iaload, 1) := by decide +kernel
theorem dX8_figures_33 : decode cX8_figures 33 = .ok (.iadd, 1) := by decide +kernel
theorem dX8_figures_34 : decode cX8_figures 34 = .ok (.bipush 48, 2) := by decide +kernel
theorem dX8_figures_36 : decode cX8_figures 36 = .ok (.isub, 1) := by decide +kernel
theorem dX8_figures_37 : decode cX8_figures 37 = .ok (.istore_n 1, 1) := by decide +kernel
theorem dX8_figures_38 : decode cX8_figures 38 = .ok (.iinc 2 1, 3) := by decide +kernel
theorem dX8_figures_41 : decode cX8_figures 41 = .ok (.goto (-34), 3) := by decide +kernel
theorem dX8_figures_44 : decode cX8_figures 44 = .ok (.iload_n 1, 1) := by decide +kernel
theorem dX8_figures_45 : decode cX8_figures 45 = .ok (.ireturn, 1) := by decide +kernel
theorem dX8_number_0 : decode cX8_number 0 = .ok (.aload_n 0, 1) := by decide +kernel
theorem dX8_number_1 : decode cX8_number 1 = .ok (.getfield 126, 3) := by decide +kernel
theorem dX8_number_4 : decode cX8_number 4 = .ok (.ifCond .le 5, 3) := by decide +kernel
theorem dX8_number_7 : decode cX8_number 7 = .ok (.iconst 0, 1) := by decide +kernel
theorem dX8_number_8 : decode cX8_number 8 = .ok (.ireturn, 1) := by decide +kernel
theorem dX8_number_9 : decode cX8_number 9 = .ok (.aload_n 0, 1) := by decide +kernel
theorem dX8_number_10 : decode cX8_number 10 = .ok (.invokevirtual 139, 3) := by decide +kernel
theorem dX8_number_13 : decode cX8_number 13 = .ok (.istore_n 3, 1) := by decide +kernel
theorem dX8_number_14 : decode cX8_number 14 = .ok (.aload_n 0, 1) := by decide +kernel
theorem dX8_number_15 : decode cX8_number 15 = .ok (.getfield 114, 3) := by decide +kernel
theorem dX8_number_18 : decode cX8_number 18 = .ok (.iconst 3, 1) := by decide +kernel
theorem dX8_number_19 : decode cX8_number 19 = .ok (.if_icmp .ne 20, 3) := by decide +kernel
theorem dX8_number_22 : decode cX8_number 22 = .ok (.iload_n 3, 1) := by decide +kernel
theorem dX8_number_23 : decode cX8_number 23 = .ok (.i2l, 1) := by decide +kernel
theorem dX8_number_24 : decode cX8_number 24 = .ok (.iload_n 1, 1) := by decide +kernel
theorem dX8_number_25 : decode cX8_number 25 = .ok (.i2l, 1) := by decide +kernel
theorem dX8_number_26 : decode cX8_number 26 = .ok (.iload_n 2, 1) := by decide +kernel
theorem dX8_number_27 : decode cX8_number 27 = .ok (.i2l, 1) := by decide +kernel
theorem dX8_number_28 : decode cX8_number 28 = .ok (.invokestatic 78, 3) := by decide +kernel
theorem dX8_number_31 : decode cX8_number 31 = .ok (.ifCond .ne 8, 3) := by decide +kernel
theorem dX8_number_34 : decode cX8_number 34 = .ok (.aload_n 0, 1) := by decide +kernel
theorem dX8_number_35 : decode cX8_number 35 = .ok (.iconst 2, 1) := by decide +kernel
theorem dX8_number_36 : decode cX8_number 36 = .ok (.invokevirtual 135, 3) := by decide +kernel
theorem dX8_number_39 : decode cX8_number 39 = .ok (.aload_n 0, 1) := by decide +kernel
theorem dX8_number_40 : decode cX8_number 40 = .ok (.aload_n 0, 1) := by decide +kernel
theorem dX8_number_41 : decode cX8_number 41 = .ok (.getfield 114, 3) := by decide +kernel
theorem dX8_number_44 : decode cX8_number 44 = .ok (.iconst 3, 1) := by decide +kernel
theorem dX8_number_45 : decode cX8_number 45 = .ok (.if_icmp .ne 7, 3) := by decide +kernel
theorem dX8_number_48 : decode cX8_number 48 = .ok (.iconst 1, 1) := by decide +kernel
theorem dX8_number_49 : decode cX8_number 49 = .ok (.goto 4, 3) := by decide +kernel
theorem dX8_number_52 : decode cX8_number 52 = .ok (.iconst 0, 1) := by decide +kernel
theorem dX8_number_53 : decode cX8_number 53 = .ok (.invokevirtual 143, 3) := by decide +kernel
theorem dX8_number_56 : decode cX8_number 56 = .ok (.iload_n 3, 1) := by decide +kernel
theorem dX8_number_57 : decode cX8_number 57 = .ok (.ireturn, 1) := by decide +kernel
theorem dX8_kindBy_0 : decode cX8_kindBy 0 = .ok (.lload_n 0, 1) := by decide +kernel
theorem dX8_kindBy_1 : decode cX8_kindBy 1 = .ok (.ldc2_w 147, 3) := by decide +kernel
theorem dX8_kindBy_4 : decode cX8_kindBy 4 = .ok (.lcmp, 1) := by decide +kernel
theorem dX8_kindBy_5 : decode cX8_kindBy 5 = .ok (.ifCond .ne 7, 3) := by decide +kernel
theorem dX8_kindBy_8 : decode cX8_kindBy 8 = .ok (.iconst 1, 1) := by decide +kernel
theorem dX8_kindBy_9 : decode cX8_kindBy 9 = .ok (.goto 53, 3) := by decide +kernel
theorem dX8_kindBy_12 : decode cX8_kindBy 12 = .ok (.lload_n 0, 1) := by decide +kernel
theorem dX8_kindBy_13 : decode cX8_kindBy 13 = .ok (.ldc2_w 149, 3) := by decide +kernel
theorem dX8_kindBy_16 : decode cX8_kindBy 16 = .ok (.lcmp, 1) := by decide +kernel
theorem dX8_kindBy_17 : decode cX8_kindBy 17 = .ok (.ifCond .ne 7, 3) := by decide +kernel
theorem dX8_kindBy_20 : decode cX8_kindBy 20 = .ok (.iconst 4, 1) := by decide +kernel
theorem dX8_kindBy_21 : decode cX8_kindBy 21 = .ok (.goto 41, 3) := by decide +kernel
theorem dX8_kindBy_24 : decode cX8_kindBy 24 = .ok (.lload_n 0, 1) := by decide +kernel
theorem dX8_kindBy_25 : decode cX8_kindBy 25 = .ok (.ldc2_w 151, 3) := by decide +kernel
theorem dX8_kindBy_28 : decode cX8_kindBy 28 = .ok (.lcmp, 1) := by decide +kernel
theorem dX8_kindBy_29 : decode cX8_kindBy 29 = .ok (.ifCond .ne 7, 3) := by decide +kernel
theorem dX8_kindBy_32 : decode cX8_kindBy 32 = .ok (.iconst 5, 1) := by decide +kernel
theorem dX8_kindBy_33 : decode cX8_kindBy 33 = .ok (.goto 29, 3) := by decide +kernel
theorem dX8_kindBy_36 : decode cX8_kindBy 36 = .ok (.lload_n 0, 1) := by decide +kernel
theorem dX8_kindBy_37 : decode cX8_kindBy 37 = .ok (.ldc2_w 153, 3) := by decide +kernel
theorem dX8_kindBy_40 : decode cX8_kindBy 40 = .ok (.lcmp, 1) := by decide +kernel
theorem dX8_kindBy_41 : decode cX8_kindBy 41 = .ok (.ifCond .ne 7, 3) := by decide +kernel
theorem dX8_kindBy_44 : decode cX8_kindBy 44 = .ok (.iconst 2, 1) := by decide +kernel
theorem dX8_kindBy_45 : decode cX8_kindBy 45 = .ok (.goto 17, 3) := by decide +kernel
theorem dX8_kindBy_48 : decode cX8_kindBy 48 = .ok (.lload_n 0, 1) := by decide +kernel
theorem dX8_kindBy_49 : decode cX8_kindBy 49 = .ok (.ldc2_w 155, 3) := by decide +kernel
theorem dX8_kindBy_52 : decode cX8_kindBy 52 = .ok (.lcmp, 1) := by decide +kernel
theorem dX8_kindBy_53 : decode cX8_kindBy 53 = .ok (.ifCond .ne 7, 3) := by decide +kernel
theorem dX8_kindBy_56 : decode cX8_kindBy 56 = .ok (.iconst 3, 1) := by decide +kernel
theorem dX8_kindBy_57 : decode cX8_kindBy 57 = .ok (.goto 5, 3) := by decide +kernel
theorem dX8_kindBy_60 : decode cX8_kindBy 60 = .ok (.ldc 104, 2) := by decide +kernel
theorem dX8_kindBy_62 : decode cX8_kindBy 62 = .ok (.ireturn, 1) := by decide +kernel
theorem dX8_mustEnd_0 : decode cX8_mustEnd 0 = .ok (.aload_n 0, 1) := by decide +kernel
theorem dX8_mustEnd_1 : decode cX8_mustEnd 1 = .ok (.getfield 126, 3) := by decide +kernel
theorem dX8_mustEnd_4 : decode cX8_mustEnd 4 = .ok (.ifCond .ne 20, 3) := by decide +kernel
theorem dX8_mustEnd_7 : decode cX8_mustEnd 7 = .ok (.aload_n 0, 1) := by decide +kernel
theorem dX8_mustEnd_8 : decode cX8_mustEnd 8 = .ok (.aload_n 0, 1) := by decide +kernel
theorem dX8_mustEnd_9 : decode cX8_mustEnd 9 = .ok (.getfield 114, 3) := by decide +kernel
theorem dX8_mustEnd_12 : decode cX8_mustEnd 12 = .ok (.iconst 4, 1) := by decide +kernel
theorem dX8_mustEnd_13 : decode cX8_mustEnd 13 = .ok (.if_icmp .ne 7, 3) := by decide +kernel
theorem dX8_mustEnd_16 : decode cX8_mustEnd 16 = .ok (.iconst 1, 1) := by decide +kernel
theorem dX8_mustEnd_17 : decode cX8_mustEnd 17 = .ok (.goto 4, 3) := by decide +kernel
theorem dX8_mustEnd_20 : decode cX8_mustEnd 20 = .ok (.iconst 0, 1) := by decide +kernel
theorem dX8_mustEnd_21 : decode cX8_mustEnd 21 = .ok (.invokevirtual 143, 3) := by decide +kernel
theorem dX8_mustEnd_24 : decode cX8_mustEnd 24 = .ok (.return_, 1) := by decide +kernel
theorem dX8_begins_0 : decode cX8_begins 0 = .ok (.aload_n 0, 1) := by decide +kernel
theorem dX8_begins_1 : decode cX8_begins 1 = .ok (.getfield 22, 3) := by decide +kernel
theorem dX8_begins_4 : decode cX8_begins 4 = .ok (.iload_n 1, 1) := by decide +kernel
theorem dX8_begins_5 : decode cX8_begins 5 = .ok (.iaload, 1) := by decide +kernel
theorem dX8_begins_6 : decode cX8_begins 6 = .ok (.iload_n 2, 1) := by decide +kernel
theorem dX8_begins_7 : decode cX8_begins 7 = .ok (.if_icmp .ne 8, 3) := by decide +kernel
theorem dX8_begins_10 : decode cX8_begins 10 = .ok (.aload_n 0, 1) := by decide +kernel
theorem dX8_begins_11 : decode cX8_begins 11 = .ok (.iconst 3, 1) := by decide +kernel
theorem dX8_begins_12 : decode cX8_begins 12 = .ok (.invokevirtual 135, 3) := by decide +kernel
theorem dX8_begins_15 : decode cX8_begins 15 = .ok (.aload_n 0, 1) := by decide +kernel
theorem dX8_begins_16 : decode cX8_begins 16 = .ok (.iconst 1, 1) := by decide +kernel
theorem dX8_begins_17 : decode cX8_begins 17 = .ok (.invokevirtual 143, 3) := by decide +kernel
theorem dX8_begins_20 : decode cX8_begins 20 = .ok (.return_, 1) := by decide +kernel
theorem dX8_unlike_0 : decode cX8_unlike 0 = .ok (.aload_n 0, 1) := by decide +kernel
theorem dX8_unlike_1 : decode cX8_unlike 1 = .ok (.getfield 126, 3) := by decide +kernel
theorem dX8_unlike_4 : decode cX8_unlike 4 = .ok (.ifCond .ne 24, 3) := by decide +kernel
theorem dX8_unlike_7 : decode cX8_unlike 7 = .ok (.aload_n 0, 1) := by decide +kernel
theorem dX8_unlike_8 : decode cX8_unlike 8 = .ok (.getfield 114, 3) := by decide +kernel
theorem dX8_unlike_11 : decode cX8_unlike 11 = .ok (.iconst 3, 1) := by decide +kernel
theorem dX8_unlike_12 : decode cX8_unlike 12 = .ok (.if_icmp .ne 16, 3) := by decide +kernel
theorem dX8_unlike_15 : decode cX8_unlike 15 = .ok (.aload_n 0, 1) := by decide +kernel
theorem dX8_unlike_16 : decode cX8_unlike 16 = .ok (.invokevirtual 139, 3) := by decide +kernel
theorem dX8_unlike_19 : decode cX8_unlike 19 = .ok (.iload_n 3, 1) := by decide +kernel
theorem dX8_unlike_20 : decode cX8_unlike 20 = .ok (.if_icmp .ne 8, 3) := by decide +kernel
theorem dX8_unlike_23 : decode cX8_unlike 23 = .ok (.aload_n 0, 1) := by decide +kernel
theorem dX8_unlike_24 : decode cX8_unlike 24 = .ok (.iconst 2, 1) := by decide +kernel
theorem dX8_unlike_25 : decode cX8_unlike 25 = .ok (.invokevirtual 135, 3) := by decide +kernel
theorem dX8_unlike_28 : decode cX8_unlike 28 = .ok (.aload_n 0, 1) := by decide +kernel
theorem dX8_unlike_29 : decode cX8_unlike 29 = .ok (.iload_n 1, 1) := by decide +kernel
theorem dX8_unlike_30 : decode cX8_unlike 30 = .ok (.iload_n 2, 1) := by decide +kernel
theorem dX8_unlike_31 : decode cX8_unlike 31 = .ok (.invokevirtual 157, 3) := by decide +kernel
theorem dX8_unlike_34 : decode cX8_unlike 34 = .ok (.ireturn, 1) := by decide +kernel
theorem dX8_readWay_0 : decode cX8_readWay 0 = .ok (.aload_n 0, 1) := by decide +kernel
theorem dX8_readWay_1 : decode cX8_readWay 1 = .ok (.iconst 2, 1) := by decide +kernel
theorem dX8_readWay_2 : decode cX8_readWay 2 = .ok (.bipush 16, 2) := by decide +kernel
theorem dX8_readWay_4 : decode cX8_readWay 4 = .ok (.invokevirtual 161, 3) := by decide +kernel
theorem dX8_readWay_7 : decode cX8_readWay 7 = .ok (.aload_n 0, 1) := by decide +kernel
theorem dX8_readWay_8 : decode cX8_readWay 8 = .ok (.iconst 0, 1) := by decide +kernel
theorem dX8_readWay_9 : decode cX8_readWay 9 = .ok (.bipush 7, 2) := by decide +kernel
theorem dX8_readWay_11 : decode cX8_readWay 11 = .ok (.invokevirtual 157, 3) := by decide +kernel
theorem dX8_readWay_14 : decode cX8_readWay 14 = .ok (.istore_n 1, 1) := by decide +kernel
theorem dX8_readWay_15 : decode cX8_readWay 15 = .ok (.aload_n 0, 1) := by decide +kernel
theorem dX8_readWay_16 : decode cX8_readWay 16 = .ok (.iconst 0, 1) := by decide +kernel
theorem dX8_readWay_17 : decode cX8_readWay 17 = .ok (.bipush 7, 2) := by decide +kernel
theorem dX8_readWay_19 : decode cX8_readWay 19 = .ok (.iload_n 1, 1) := by decide +kernel
theorem dX8_readWay_20 : decode cX8_readWay 20 = .ok (.invokevirtual 165, 3) := by decide +kernel
theorem dX8_readWay_23 : decode cX8_readWay 23 = .ok (.istore_n 2, 1) := by decide +kernel
theorem dX8_readWay_24 : decode cX8_readWay 24 = .ok (.aload_n 0, 1) := by decide +kernel
theorem dX8_readWay_25 : decode cX8_readWay 25 = .ok (.iconst 1, 1) := by decide +kernel
theorem dX8_readWay_26 : decode cX8_readWay 26 = .ok (.bipush 99, 2) := by decide +kernel
theorem dX8_readWay_28 : decode cX8_readWay 28 = .ok (.invokevirtual 157, 3) := by decide +kernel
theorem dX8_readWay_31 : decode cX8_readWay 31 = .ok (.istore_n 3, 1) := by decide +kernel
theorem dX8_readWay_32 : decode cX8_readWay 32 = .ok (.aload_n 0, 1) := by decide +kernel
theorem dX8_readWay_33 : decode cX8_readWay 33 = .ok (.invokevirtual 169, 3) := by decide +kernel
theorem dX8_readWay_36 : decode cX8_readWay 36 = .ok (.aload_n 0, 1) := by decide +kernel
theorem dX8_readWay_37 : decode cX8_readWay 37 = .ok (.getfield 126, 3) := by decide +kernel
theorem dX8_readWay_40 : decode cX8_readWay 40 = .ok (.ifCond .ne 83, 3) := by decide +kernel
theorem dX8_readWay_43 : decode cX8_readWay 43 = .ok (.aload_n 0, 1) := by decide +kernel
theorem dX8_readWay_44 : decode cX8_readWay 44 = .ok (.getfield 22, 3) := by decide +kernel
theorem dX8_readWay_47 : decode cX8_readWay 47 = .ok (.bipush 8, 2) := by decide +kernel
theorem dX8_readWay_49 : decode cX8_readWay 49 = .ok (.bipush 8, 2) := by decide +kernel
theorem dX8_readWay_51 : decode cX8_readWay 51 = .ok (.iload_n 1, 1) := by decide +kernel
theorem dX8_readWay_52 : decode cX8_readWay 52 = .ok (.imul, 1) := by decide +kernel
theorem dX8_readWay_53 : decode cX8_readWay 53 = .ok (.iadd, 1) := by decide +kernel
theorem dX8_readWay_54 : decode cX8_readWay 54 = .ok (.iload_n 2, 1) := by decide +kernel
theorem dX8_readWay_55 : decode cX8_readWay 55 = .ok (.iadd, 1) := by decide +kernel
theorem dX8_readWay_56 : decode cX8_readWay 56 = .ok (.iaload, 1) := by decide +kernel
theorem dX8_readWay_57 : decode cX8_readWay 57 = .ok (.iload_n 3, 1) := by decide +kernel
theorem dX8_readWay_58 : decode cX8_readWay 58 = .ok (.if_icmp .ge 20, 3) := by decide +kernel
theorem dX8_readWay_61 : decode cX8_readWay 61 = .ok (.aload_n 0, 1) := by decide +kernel
theorem dX8_readWay_62 : decode cX8_readWay 62 = .ok (.getfield 22, 3) := by decide +kernel
theorem dX8_readWay_65 : decode cX8_readWay 65 = .ok (.bipush 8, 2) := by decide +kernel
theorem dX8_readWay_67 : decode cX8_readWay 67 = .ok (.bipush 8, 2) := by decide +kernel
theorem dX8_readWay_69 : decode cX8_readWay 69 = .ok (.iload_n 1, 1) := by decide +kernel
theorem dX8_readWay_70 : decode cX8_readWay 70 = .ok (.imul, 1) := by decide +kernel
theorem dX8_readWay_71 : decode cX8_readWay 71 = .ok (.iadd, 1) := by decide +kernel
theorem dX8_readWay_72 : decode cX8_readWay 72 = .ok (.iload_n 2, 1) := by decide +kernel
theorem dX8_readWay_73 : decode cX8_readWay 73 = .ok (.iadd, 1) := by decide +kernel
theorem dX8_readWay_74 : decode cX8_readWay 74 = .ok (.iaload, 1) := by decide +kernel
theorem dX8_readWay_75 : decode cX8_readWay 75 = .ok (.goto 4, 3) := by decide +kernel
theorem dX8_readWay_78 : decode cX8_readWay 78 = .ok (.iload_n 3, 1) := by decide +kernel
theorem dX8_readWay_79 : decode cX8_readWay 79 = .ok (.istore 4, 2) := by decide +kernel
theorem dX8_readWay_81 : decode cX8_readWay 81 = .ok (.aload_n 0, 1) := by decide +kernel
theorem dX8_readWay_82 : decode cX8_readWay 82 = .ok (.getfield 22, 3) := by decide +kernel
theorem dX8_readWay_85 : decode cX8_readWay 85 = .ok (.bipush 8, 2) := by decide +kernel
theorem dX8_readWay_87 : decode cX8_readWay 87 = .ok (.bipush 8, 2) := by decide +kernel
theorem dX8_readWay_89 : decode cX8_readWay 89 = .ok (.iload_n 1, 1) := by decide +kernel
theorem dX8_readWay_90 : decode cX8_readWay 90 = .ok (.imul, 1) := by decide +kernel
theorem dX8_readWay_91 : decode cX8_readWay 91 = .ok (.iadd, 1) := by decide +kernel
theorem dX8_readWay_92 : decode cX8_readWay 92 = .ok (.iload_n 2, 1) := by decide +kernel
theorem dX8_readWay_93 : decode cX8_readWay 93 = .ok (.iadd, 1) := by decide +kernel
theorem dX8_readWay_94 : decode cX8_readWay 94 = .ok (.iload 4, 2) := by decide +kernel
theorem dX8_readWay_96 : decode cX8_readWay 96 = .ok (.iastore, 1) := by decide +kernel
theorem dX8_readWay_97 : decode cX8_readWay 97 = .ok (.aload_n 0, 1) := by decide +kernel
theorem dX8_readWay_98 : decode cX8_readWay 98 = .ok (.getfield 22, 3) := by decide +kernel
theorem dX8_readWay_101 : decode cX8_readWay 101 = .ok (.bipush 8, 2) := by decide +kernel
theorem dX8_readWay_103 : decode cX8_readWay 103 = .ok (.bipush 8, 2) := by decide +kernel
theorem dX8_readWay_105 : decode cX8_readWay 105 = .ok (.iload_n 2, 1) := by decide +kernel
theorem dX8_readWay_106 : decode cX8_readWay 106 = .ok (.imul, 1) := by decide +kernel
theorem dX8_readWay_107 : decode cX8_readWay 107 = .ok (.iadd, 1) := by decide +kernel
theorem dX8_readWay_108 : decode cX8_readWay 108 = .ok (.iload_n 1, 1) := by decide +kernel
theorem dX8_readWay_109 : decode cX8_readWay 109 = .ok (.iadd, 1) := by decide +kernel
theorem dX8_readWay_110 : decode cX8_readWay 110 = .ok (.iload 4, 2) := by decide +kernel
theorem dX8_readWay_112 : decode cX8_readWay 112 = .ok (.iastore, 1) := by decide +kernel
theorem dX8_readWay_113 : decode cX8_readWay 113 = .ok (.aload_n 0, 1) := by decide +kernel
theorem dX8_readWay_114 : decode cX8_readWay 114 = .ok (.getfield 22, 3) := by decide +kernel
theorem dX8_readWay_117 : decode cX8_readWay 117 = .ok (.iconst 2, 1) := by decide +kernel
theorem dX8_readWay_118 : decode cX8_readWay 118 = .ok (.dup2, 1) := by decide +kernel
theorem dX8_readWay_119 : decode cX8_readWay 119 = .ok (.iaload, 1) := by decide +kernel
theorem dX8_readWay_120 : decode cX8_readWay 120 = .ok (.iconst 1, 1) := by decide +kernel
theorem dX8_readWay_121 : decode cX8_readWay 121 = .ok (.iadd, 1) := by decide +kernel
theorem dX8_readWay_122 : decode cX8_readWay 122 = .ok (.iastore, 1) := by decide +kernel
theorem dX8_readWay_123 : decode cX8_readWay 123 = .ok (.return_, 1) := by decide +kernel
theorem dX8_readHill_0 : decode cX8_readHill 0 = .ok (.aload_n 0, 1) := by decide +kernel
theorem dX8_readHill_1 : decode cX8_readHill 1 = .ok (.iconst 3, 1) := by decide +kernel
theorem dX8_readHill_2 : decode cX8_readHill 2 = .ok (.bipush 7, 2) := by decide +kernel
theorem dX8_readHill_4 : decode cX8_readHill 4 = .ok (.invokevirtual 161, 3) := by decide +kernel
theorem dX8_readHill_7 : decode cX8_readHill 7 = .ok (.aload_n 0, 1) := by decide +kernel
theorem dX8_readHill_8 : decode cX8_readHill 8 = .ok (.iconst 1, 1) := by decide +kernel
theorem dX8_readHill_9 : decode cX8_readHill 9 = .ok (.bipush 7, 2) := by decide +kernel
theorem dX8_readHill_11 : decode cX8_readHill 11 = .ok (.invokevirtual 157, 3) := by decide +kernel
theorem dX8_readHill_14 : decode cX8_readHill 14 = .ok (.istore_n 1, 1) := by decide +kernel
theorem dX8_readHill_15 : decode cX8_readHill 15 = .ok (.aload_n 0, 1) := by decide +kernel
theorem dX8_readHill_16 : decode cX8_readHill 16 = .ok (.invokevirtual 169, 3) := by decide +kernel
theorem dX8_readHill_19 : decode cX8_readHill 19 = .ok (.aload_n 0, 1) := by decide +kernel
theorem dX8_readHill_20 : decode cX8_readHill 20 = .ok (.getfield 126, 3) := by decide +kernel
theorem dX8_readHill_23 : decode cX8_readHill 23 = .ok (.ifCond .ne 26, 3) := by decide +kernel
theorem dX8_readHill_26 : decode cX8_readHill 26 = .ok (.aload_n 0, 1) := by decide +kernel
theorem dX8_readHill_27 : decode cX8_readHill 27 = .ok (.getfield 22, 3) := by decide +kernel
theorem dX8_readHill_30 : decode cX8_readHill 30 = .ok (.bipush 7, 2) := by decide +kernel
theorem dX8_readHill_32 : decode cX8_readHill 32 = .ok (.dup2, 1) := by decide +kernel
theorem dX8_readHill_33 : decode cX8_readHill 33 = .ok (.iaload, 1) := by decide +kernel
theorem dX8_readHill_34 : decode cX8_readHill 34 = .ok (.iconst 1, 1) := by decide +kernel
theorem dX8_readHill_35 : decode cX8_readHill 35 = .ok (.iload_n 1, 1) := by decide +kernel
theorem dX8_readHill_36 : decode cX8_readHill 36 = .ok (.ishl, 1) := by decide +kernel
theorem dX8_readHill_37 : decode cX8_readHill 37 = .ok (.ior, 1) := by decide +kernel
theorem dX8_readHill_38 : decode cX8_readHill 38 = .ok (.iastore, 1) := by decide +kernel
theorem dX8_readHill_39 : decode cX8_readHill 39 = .ok (.aload_n 0, 1) := by decide +kernel
theorem dX8_readHill_40 : decode cX8_readHill 40 = .ok (.getfield 22, 3) := by decide +kernel
theorem dX8_readHill_43 : decode cX8_readHill 43 = .ok (.iconst 3, 1) := by decide +kernel
theorem dX8_readHill_44 : decode cX8_readHill 44 = .ok (.dup2, 1) := by decide +kernel
theorem dX8_readHill_45 : decode cX8_readHill 45 = .ok (.iaload, 1) := by decide +kernel
theorem dX8_readHill_46 : decode cX8_readHill 46 = .ok (.iconst 1, 1) := by decide +kernel
theorem dX8_readHill_47 : decode cX8_readHill 47 = .ok (.iadd, 1) := by decide +kernel
theorem dX8_readHill_48 : decode cX8_readHill 48 = .ok (.iastore, 1) := by decide +kernel
theorem dX8_readHill_49 : decode cX8_readHill 49 = .ok (.return_, 1) := by decide +kernel
theorem dX8_readPerson_0 : decode cX8_readPerson 0 = .ok (.aload_n 0, 1) := by decide +kernel
theorem dX8_readPerson_1 : decode cX8_readPerson 1 = .ok (.iconst 4, 1) := by decide +kernel
theorem dX8_readPerson_2 : decode cX8_readPerson 2 = .ok (.bipush 7, 2) := by decide +kernel
theorem dX8_readPerson_4 : decode cX8_readPerson 4 = .ok (.invokevirtual 161, 3) := by decide +kernel
theorem dX8_readPerson_7 : decode cX8_readPerson 7 = .ok (.aload_n 0, 1) := by decide +kernel
theorem dX8_readPerson_8 : decode cX8_readPerson 8 = .ok (.invokevirtual 172, 3) := by decide +kernel
theorem dX8_readPerson_11 : decode cX8_readPerson 11 = .ok (.invokestatic 176, 3) := by decide +kernel
theorem dX8_readPerson_14 : decode cX8_readPerson 14 = .ok (.istore_n 1, 1) := by decide +kernel
theorem dX8_readPerson_15 : decode cX8_readPerson 15 = .ok (.aload_n 0, 1) := by decide +kernel
theorem dX8_readPerson_16 : decode cX8_readPerson 16 = .ok (.getfield 126, 3) := by decide +kernel
theorem dX8_readPerson_19 : decode cX8_readPerson 19 = .ok (.ifCond .ne 18, 3) := by decide +kernel
theorem dX8_readPerson_22 : decode cX8_readPerson 22 = .ok (.aload_n 0, 1) := by decide +kernel
theorem dX8_readPerson_23 : decode cX8_readPerson 23 = .ok (.iload_n 1, 1) := by decide +kernel
theorem dX8_readPerson_24 : decode cX8_readPerson 24 = .ok (.ldc 104, 2) := by decide +kernel
theorem dX8_readPerson_26 : decode cX8_readPerson 26 = .ok (.if_icmp .eq 7, 3) := by decide +kernel
theorem dX8_readPerson_29 : decode cX8_readPerson 29 = .ok (.iconst 1, 1) := by decide +kernel
theorem dX8_readPerson_30 : decode cX8_readPerson 30 = .ok (.goto 4, 3) := by decide +kernel
theorem dX8_readPerson_33 : decode cX8_readPerson 33 = .ok (.iconst 0, 1) := by decide +kernel
theorem dX8_readPerson_34 : decode cX8_readPerson 34 = .ok (.invokevirtual 143, 3) := by decide +kernel
theorem dX8_readPerson_37 : decode cX8_readPerson 37 = .ok (.aload_n 0, 1) := by decide +kernel
theorem dX8_readPerson_38 : decode cX8_readPerson 38 = .ok (.iconst 1, 1) := by decide +kernel
theorem dX8_readPerson_39 : decode cX8_readPerson 39 = .ok (.bipush 7, 2) := by decide +kernel
theorem dX8_readPerson_41 : decode cX8_readPerson 41 = .ok (.invokevirtual 157, 3) := by decide +kernel
theorem dX8_readPerson_44 : decode cX8_readPerson 44 = .ok (.istore_n 2, 1) := by decide +kernel
theorem dX8_readPerson_45 : decode cX8_readPerson 45 = .ok (.aload_n 0, 1) := by decide +kernel
theorem dX8_readPerson_46 : decode cX8_readPerson 46 = .ok (.iconst 0, 1) := by decide +kernel
theorem dX8_readPerson_47 : decode cX8_readPerson 47 = .ok (.bipush 9, 2) := by decide +kernel
theorem dX8_readPerson_49 : decode cX8_readPerson 49 = .ok (.invokevirtual 157, 3) := by decide +kernel
theorem dX8_readPerson_52 : decode cX8_readPerson 52 = .ok (.istore_n 3, 1) := by decide +kernel
theorem dX8_readPerson_53 : decode cX8_readPerson 53 = .ok (.aload_n 0, 1) := by decide +kernel
theorem dX8_readPerson_54 : decode cX8_readPerson 54 = .ok (.invokevirtual 169, 3) := by decide +kernel
theorem dX8_readPerson_57 : decode cX8_readPerson 57 = .ok (.aload_n 0, 1) := by decide +kernel
theorem dX8_readPerson_58 : decode cX8_readPerson 58 = .ok (.getfield 126, 3) := by decide +kernel
theorem dX8_readPerson_61 : decode cX8_readPerson 61 = .ok (.ifCond .ne 54, 3) := by decide +kernel
theorem dX8_readPerson_64 : decode cX8_readPerson 64 = .ok (.bipush 72, 2) := by decide +kernel
theorem dX8_readPerson_66 : decode cX8_readPerson 66 = .ok (.iconst 4, 1) := by decide +kernel
theorem dX8_readPerson_67 : decode cX8_readPerson 67 = .ok (.aload_n 0, 1) := by decide +kernel
theorem dX8_readPerson_68 : decode cX8_readPerson 68 = .ok (.getfield 22, 3) := by decide +kernel
theorem dX8_readPerson_71 : decode cX8_readPerson 71 = .ok (.iconst 4, 1) := by decide +kernel
theorem dX8_readPerson_72 : decode cX8_readPerson 72 = .ok (.iaload, 1) := by decide +kernel
theorem dX8_readPerson_73 : decode cX8_readPerson 73 = .ok (.imul, 1) := by decide +kernel
theorem dX8_readPerson_74 : decode cX8_readPerson 74 = .ok (.iadd, 1) := by decide +kernel
theorem dX8_readPerson_75 : decode cX8_readPerson 75 = .ok (.istore 4, 2) := by decide +kernel
theorem dX8_readPerson_77 : decode cX8_readPerson 77 = .ok (.aload_n 0, 1) := by decide +kernel
theorem dX8_readPerson_78 : decode cX8_readPerson 78 = .ok (.getfield 22, 3) := by decide +kernel
theorem dX8_readPerson_81 : decode cX8_readPerson 81 = .ok (.iload 4, 2) := by decide +kernel
theorem dX8_readPerson_83 : decode cX8_readPerson 83 = .ok (.iload_n 1, 1) := by decide +kernel
theorem dX8_readPerson_84 : decode cX8_readPerson 84 = .ok (.iastore, 1) := by decide +kernel
theorem dX8_readPerson_85 : decode cX8_readPerson 85 = .ok (.aload_n 0, 1) := by decide +kernel
theorem dX8_readPerson_86 : decode cX8_readPerson 86 = .ok (.getfield 22, 3) := by decide +kernel
theorem dX8_readPerson_89 : decode cX8_readPerson 89 = .ok (.iload 4, 2) := by decide +kernel
theorem dX8_readPerson_91 : decode cX8_readPerson 91 = .ok (.iconst 1, 1) := by decide +kernel
theorem dX8_readPerson_92 : decode cX8_readPerson 92 = .ok (.iadd, 1) := by decide +kernel
theorem dX8_readPerson_93 : decode cX8_readPerson 93 = .ok (.iload_n 2, 1) := by decide +kernel
theorem dX8_readPerson_94 : decode cX8_readPerson 94 = .ok (.iastore, 1) := by decide +kernel
theorem dX8_readPerson_95 : decode cX8_readPerson 95 = .ok (.aload_n 0, 1) := by decide +kernel
theorem dX8_readPerson_96 : decode cX8_readPerson 96 = .ok (.getfield 22, 3) := by decide +kernel
theorem dX8_readPerson_99 : decode cX8_readPerson 99 = .ok (.iload 4, 2) := by decide +kernel
theorem dX8_readPerson_101 : decode cX8_readPerson 101 = .ok (.iconst 2, 1) := by decide +kernel
theorem dX8_readPerson_102 : decode cX8_readPerson 102 = .ok (.iadd, 1) := by decide +kernel
theorem dX8_readPerson_103 : decode cX8_readPerson 103 = .ok (.iload_n 3, 1) := by decide +kernel
theorem dX8_readPerson_104 : decode cX8_readPerson 104 = .ok (.iastore, 1) := by decide +kernel
theorem dX8_readPerson_105 : decode cX8_readPerson 105 = .ok (.aload_n 0, 1) := by decide +kernel
theorem dX8_readPerson_106 : decode cX8_readPerson 106 = .ok (.getfield 22, 3) := by decide +kernel
theorem dX8_readPerson_109 : decode cX8_readPerson 109 = .ok (.iconst 4, 1) := by decide +kernel
theorem dX8_readPerson_110 : decode cX8_readPerson 110 = .ok (.dup2, 1) := by decide +kernel
theorem dX8_readPerson_111 : decode cX8_readPerson 111 = .ok (.iaload, 1) := by decide +kernel
theorem dX8_readPerson_112 : decode cX8_readPerson 112 = .ok (.iconst 1, 1) := by decide +kernel
theorem dX8_readPerson_113 : decode cX8_readPerson 113 = .ok (.iadd, 1) := by decide +kernel
theorem dX8_readPerson_114 : decode cX8_readPerson 114 = .ok (.iastore, 1) := by decide +kernel
theorem dX8_readPerson_115 : decode cX8_readPerson 115 = .ok (.return_, 1) := by decide +kernel
theorem dX8_isOwner_0 : decode cX8_isOwner 0 = .ok (.iconst 0, 1) := by decide +kernel
theorem dX8_isOwner_1 : decode cX8_isOwner 1 = .ok (.istore_n 2, 1) := by decide +kernel
theorem dX8_isOwner_2 : decode cX8_isOwner 2 = .ok (.iconst 0, 1) := by decide +kernel
theorem dX8_isOwner_3 : decode cX8_isOwner 3 = .ok (.istore_n 3, 1) := by decide +kernel
theorem dX8_isOwner_4 : decode cX8_isOwner 4 = .ok (.iload_n 3, 1) := by decide +kernel
theorem dX8_isOwner_5 : decode cX8_isOwner 5 = .ok (.aload_n 0, 1) := by decide +kernel
theorem dX8_isOwner_6 : decode cX8_isOwner 6 = .ok (.getfield 22, 3) := by decide +kernel
theorem dX8_isOwner_9 : decode cX8_isOwner 9 = .ok (.iconst 5, 1) := by decide +kernel
theorem dX8_isOwner_10 : decode cX8_isOwner 10 = .ok (.iaload, 1) := by decide +kernel
theorem dX8_isOwner_11 : decode cX8_isOwner 11 = .ok (.if_icmp .ge 34, 3) := by decide +kernel
theorem dX8_isOwner_14 : decode cX8_isOwner 14 = .ok (.iload_n 2, 1) := by decide +kernel
theorem dX8_isOwner_15 : decode cX8_isOwner 15 = .ok (.ifCond .ne 18, 3) := by decide +kernel
theorem dX8_isOwner_18 : decode cX8_isOwner 18 = .ok (.aload_n 0, 1) := by decide +kernel
theorem dX8_isOwner_19 : decode cX8_isOwner 19 = .ok (.getfield 22, 3) := by decide +kernel
theorem dX8_isOwner_22 : decode cX8_isOwner 22 = .ok (.bipush 100, 2) := by decide +kernel
theorem dX8_isOwner_24 : decode cX8_isOwner 24 = .ok (.iconst 3, 1) := by decide +kernel
theorem dX8_isOwner_25 : decode cX8_isOwner 25 = .ok (.iload_n 3, 1) := by decide +kernel
theorem dX8_isOwner_26 : decode cX8_isOwner 26 = .ok (.imul, 1) := by decide +kernel
theorem dX8_isOwner_27 : decode cX8_isOwner 27 = .ok (.iadd, 1) := by decide +kernel
theorem dX8_isOwner_28 : decode cX8_isOwner 28 = .ok (.iaload, 1) := by decide +kernel
theorem dX8_isOwner_29 : decode cX8_isOwner 29 = .ok (.iload_n 1, 1) := by decide +kernel
theorem dX8_isOwner_30 : decode cX8_isOwner 30 = .ok (.if_icmp .ne 7, 3) := by decide +kernel
theorem dX8_isOwner_33 : decode cX8_isOwner 33 = .ok (.iconst 1, 1) := by decide +kernel
theorem dX8_isOwner_34 : decode cX8_isOwner 34 = .ok (.goto 4, 3) := by decide +kernel
theorem dX8_isOwner_37 : decode cX8_isOwner 37 = .ok (.iconst 0, 1) := by decide +kernel
theorem dX8_isOwner_38 : decode cX8_isOwner 38 = .ok (.istore_n 2, 1) := by decide +kernel
theorem dX8_isOwner_39 : decode cX8_isOwner 39 = .ok (.iinc 3 1, 3) := by decide +kernel
theorem dX8_isOwner_42 : decode cX8_isOwner 42 = .ok (.goto (-38), 3) := by decide +kernel
theorem dX8_isOwner_45 : decode cX8_isOwner 45 = .ok (.iload_n 2, 1) := by decide +kernel
theorem dX8_isOwner_46 : decode cX8_isOwner 46 = .ok (.ireturn, 1) := by decide +kernel
theorem dX8_readCar_0 : decode cX8_readCar 0 = .ok (.aload_n 0, 1) := by decide +kernel
theorem dX8_readCar_1 : decode cX8_readCar 1 = .ok (.iconst 5, 1) := by decide +kernel
theorem dX8_readCar_2 : decode cX8_readCar 2 = .ok (.iconst 3, 1) := by decide +kernel
theorem dX8_readCar_3 : decode cX8_readCar 3 = .ok (.invokevirtual 161, 3) := by decide +kernel
theorem dX8_readCar_6 : decode cX8_readCar 6 = .ok (.aload_n 0, 1) := by decide +kernel
theorem dX8_readCar_7 : decode cX8_readCar 7 = .ok (.getfield 126, 3) := by decide +kernel
theorem dX8_readCar_10 : decode cX8_readCar 10 = .ok (.ifCond .ne 27, 3) := by decide +kernel
theorem dX8_readCar_13 : decode cX8_readCar 13 = .ok (.aload_n 0, 1) := by decide +kernel
theorem dX8_readCar_14 : decode cX8_readCar 14 = .ok (.getfield 114, 3) := by decide +kernel
theorem dX8_readCar_17 : decode cX8_readCar 17 = .ok (.iconst 3, 1) := by decide +kernel
theorem dX8_readCar_18 : decode cX8_readCar 18 = .ok (.if_icmp .ne 19, 3) := by decide +kernel
theorem dX8_readCar_21 : decode cX8_readCar 21 = .ok (.aload_n 0, 1) := by decide +kernel
theorem dX8_readCar_22 : decode cX8_readCar 22 = .ok (.aload_n 0, 1) := by decide +kernel
theorem dX8_readCar_23 : decode cX8_readCar 23 = .ok (.invokevirtual 139, 3) := by decide +kernel
theorem dX8_readCar_26 : decode cX8_readCar 26 = .ok (.invokevirtual 180, 3) := by decide +kernel
theorem dX8_readCar_29 : decode cX8_readCar 29 = .ok (.ifCond .eq 8, 3) := by decide +kernel
theorem dX8_readCar_32 : decode cX8_readCar 32 = .ok (.aload_n 0, 1) := by decide +kernel
theorem dX8_readCar_33 : decode cX8_readCar 33 = .ok (.iconst 2, 1) := by decide +kernel
theorem dX8_readCar_34 : decode cX8_readCar 34 = .ok (.invokevirtual 135, 3) := by decide +kernel
theorem dX8_readCar_37 : decode cX8_readCar 37 = .ok (.aload_n 0, 1) := by decide +kernel
theorem dX8_readCar_38 : decode cX8_readCar 38 = .ok (.iconst 0, 1) := by decide +kernel
theorem dX8_readCar_39 : decode cX8_readCar 39 = .ok (.aload_n 0, 1) := by decide +kernel
theorem dX8_readCar_40 : decode cX8_readCar 40 = .ok (.getfield 22, 3) := by decide +kernel
theorem dX8_readCar_43 : decode cX8_readCar 43 = .ok (.iconst 4, 1) := by decide +kernel
theorem dX8_readCar_44 : decode cX8_readCar 44 = .ok (.iaload, 1) := by decide +kernel
theorem dX8_readCar_45 : decode cX8_readCar 45 = .ok (.iconst 1, 1) := by decide +kernel
theorem dX8_readCar_46 : decode cX8_readCar 46 = .ok (.isub, 1) := by decide +kernel
theorem dX8_readCar_47 : decode cX8_readCar 47 = .ok (.invokevirtual 157, 3) := by decide +kernel
theorem dX8_readCar_50 : decode cX8_readCar 50 = .ok (.istore_n 1, 1) := by decide +kernel
theorem dX8_readCar_51 : decode cX8_readCar 51 = .ok (.aload_n 0, 1) := by decide +kernel
theorem dX8_readCar_52 : decode cX8_readCar 52 = .ok (.iconst 1, 1) := by decide +kernel
theorem dX8_readCar_53 : decode cX8_readCar 53 = .ok (.iconst 4, 1) := by decide +kernel
theorem dX8_readCar_54 : decode cX8_readCar 54 = .ok (.invokevirtual 157, 3) := by decide +kernel
theorem dX8_readCar_57 : decode cX8_readCar 57 = .ok (.istore_n 2, 1) := by decide +kernel
theorem dX8_readCar_58 : decode cX8_readCar 58 = .ok (.aload_n 0, 1) := by decide +kernel
theorem dX8_readCar_59 : decode cX8_readCar 59 = .ok (.iconst 0, 1) := by decide +kernel
theorem dX8_readCar_60 : decode cX8_readCar 60 = .ok (.iconst 1, 1) := by decide +kernel
theorem dX8_readCar_61 : decode cX8_readCar 61 = .ok (.invokevirtual 157, 3) := by decide +kernel
theorem dX8_readCar_64 : decode cX8_readCar 64 = .ok (.istore_n 3, 1) := by decide +kernel
theorem dX8_readCar_65 : decode cX8_readCar 65 = .ok (.aload_n 0, 1) := by decide +kernel
theorem dX8_readCar_66 : decode cX8_readCar 66 = .ok (.invokevirtual 169, 3) := by decide +kernel
theorem dX8_readCar_69 : decode cX8_readCar 69 = .ok (.aload_n 0, 1) := by decide +kernel
theorem dX8_readCar_70 : decode cX8_readCar 70 = .ok (.getfield 126, 3) := by decide +kernel
theorem dX8_readCar_73 : decode cX8_readCar 73 = .ok (.ifCond .ne 54, 3) := by decide +kernel
theorem dX8_readCar_76 : decode cX8_readCar 76 = .ok (.bipush 100, 2) := by decide +kernel
theorem dX8_readCar_78 : decode cX8_readCar 78 = .ok (.iconst 3, 1) := by decide +kernel
theorem dX8_readCar_79 : decode cX8_readCar 79 = .ok (.aload_n 0, 1) := by decide +kernel
theorem dX8_readCar_80 : decode cX8_readCar 80 = .ok (.getfield 22, 3) := by decide +kernel
theorem dX8_readCar_83 : decode cX8_readCar 83 = .ok (.iconst 5, 1) := by decide +kernel
theorem dX8_readCar_84 : decode cX8_readCar 84 = .ok (.iaload, 1) := by decide +kernel
theorem dX8_readCar_85 : decode cX8_readCar 85 = .ok (.imul, 1) := by decide +kernel
theorem dX8_readCar_86 : decode cX8_readCar 86 = .ok (.iadd, 1) := by decide +kernel
theorem dX8_readCar_87 : decode cX8_readCar 87 = .ok (.istore 4, 2) := by decide +kernel
theorem dX8_readCar_89 : decode cX8_readCar 89 = .ok (.aload_n 0, 1) := by decide +kernel
theorem dX8_readCar_90 : decode cX8_readCar 90 = .ok (.getfield 22, 3) := by decide +kernel
theorem dX8_readCar_93 : decode cX8_readCar 93 = .ok (.iload 4, 2) := by decide +kernel
theorem dX8_readCar_95 : decode cX8_readCar 95 = .ok (.iload_n 1, 1) := by decide +kernel
theorem dX8_readCar_96 : decode cX8_readCar 96 = .ok (.iastore, 1) := by decide +kernel
theorem dX8_readCar_97 : decode cX8_readCar 97 = .ok (.aload_n 0, 1) := by decide +kernel
theorem dX8_readCar_98 : decode cX8_readCar 98 = .ok (.getfield 22, 3) := by decide +kernel
theorem dX8_readCar_101 : decode cX8_readCar 101 = .ok (.iload 4, 2) := by decide +kernel
theorem dX8_readCar_103 : decode cX8_readCar 103 = .ok (.iconst 1, 1) := by decide +kernel
theorem dX8_readCar_104 : decode cX8_readCar 104 = .ok (.iadd, 1) := by decide +kernel
theorem dX8_readCar_105 : decode cX8_readCar 105 = .ok (.iload_n 2, 1) := by decide +kernel
theorem dX8_readCar_106 : decode cX8_readCar 106 = .ok (.iastore, 1) := by decide +kernel
theorem dX8_readCar_107 : decode cX8_readCar 107 = .ok (.aload_n 0, 1) := by decide +kernel
theorem dX8_readCar_108 : decode cX8_readCar 108 = .ok (.getfield 22, 3) := by decide +kernel
theorem dX8_readCar_111 : decode cX8_readCar 111 = .ok (.iload 4, 2) := by decide +kernel
theorem dX8_readCar_113 : decode cX8_readCar 113 = .ok (.iconst 2, 1) := by decide +kernel
theorem dX8_readCar_114 : decode cX8_readCar 114 = .ok (.iadd, 1) := by decide +kernel
theorem dX8_readCar_115 : decode cX8_readCar 115 = .ok (.iload_n 3, 1) := by decide +kernel
theorem dX8_readCar_116 : decode cX8_readCar 116 = .ok (.iastore, 1) := by decide +kernel
theorem dX8_readCar_117 : decode cX8_readCar 117 = .ok (.aload_n 0, 1) := by decide +kernel
theorem dX8_readCar_118 : decode cX8_readCar 118 = .ok (.getfield 22, 3) := by decide +kernel
theorem dX8_readCar_121 : decode cX8_readCar 121 = .ok (.iconst 5, 1) := by decide +kernel
theorem dX8_readCar_122 : decode cX8_readCar 122 = .ok (.dup2, 1) := by decide +kernel
theorem dX8_readCar_123 : decode cX8_readCar 123 = .ok (.iaload, 1) := by decide +kernel
theorem dX8_readCar_124 : decode cX8_readCar 124 = .ok (.iconst 1, 1) := by decide +kernel
theorem dX8_readCar_125 : decode cX8_readCar 125 = .ok (.iadd, 1) := by decide +kernel
theorem dX8_readCar_126 : decode cX8_readCar 126 = .ok (.iastore, 1) := by decide +kernel
theorem dX8_readCar_127 : decode cX8_readCar 127 = .ok (.return_, 1) := by decide +kernel
theorem dX8_readQuarrel_0 : decode cX8_readQuarrel 0 = .ok (.aload_n 0, 1) := by decide +kernel
theorem dX8_readQuarrel_1 : decode cX8_readQuarrel 1 = .ok (.bipush 6, 2) := by decide +kernel
theorem dX8_readQuarrel_3 : decode cX8_readQuarrel 3 = .ok (.bipush 6, 2) := by decide +kernel
theorem dX8_readQuarrel_5 : decode cX8_readQuarrel 5 = .ok (.invokevirtual 161, 3) := by decide +kernel
theorem dX8_readQuarrel_8 : decode cX8_readQuarrel 8 = .ok (.aload_n 0, 1) := by decide +kernel
theorem dX8_readQuarrel_9 : decode cX8_readQuarrel 9 = .ok (.iconst 0, 1) := by decide +kernel
theorem dX8_readQuarrel_10 : decode cX8_readQuarrel 10 = .ok (.aload_n 0, 1) := by decide +kernel
theorem dX8_readQuarrel_11 : decode cX8_readQuarrel 11 = .ok (.getfield 22, 3) := by decide +kernel
theorem dX8_readQuarrel_14 : decode cX8_readQuarrel 14 = .ok (.iconst 4, 1) := by decide +kernel
theorem dX8_readQuarrel_15 : decode cX8_readQuarrel 15 = .ok (.iaload, 1) := by decide +kernel
theorem dX8_readQuarrel_16 : decode cX8_readQuarrel 16 = .ok (.iconst 1, 1) := by decide +kernel
theorem dX8_readQuarrel_17 : decode cX8_readQuarrel 17 = .ok (.isub, 1) := by decide +kernel
theorem dX8_readQuarrel_18 : decode cX8_readQuarrel 18 = .ok (.invokevirtual 157, 3) := by decide +kernel
theorem dX8_readQuarrel_21 : decode cX8_readQuarrel 21 = .ok (.istore_n 1, 1) := by decide +kernel
theorem dX8_readQuarrel_22 : decode cX8_readQuarrel 22 = .ok (.aload_n 0, 1) := by decide +kernel
theorem dX8_readQuarrel_23 : decode cX8_readQuarrel 23 = .ok (.iconst 0, 1) := by decide +kernel
theorem dX8_readQuarrel_24 : decode cX8_readQuarrel 24 = .ok (.aload_n 0, 1) := by decide +kernel
theorem dX8_readQuarrel_25 : decode cX8_readQuarrel 25 = .ok (.getfield 22, 3) := by decide +kernel
theorem dX8_readQuarrel_28 : decode cX8_readQuarrel 28 = .ok (.iconst 4, 1) := by decide +kernel
theorem dX8_readQuarrel_29 : decode cX8_readQuarrel 29 = .ok (.iaload, 1) := by decide +kernel
theorem dX8_readQuarrel_30 : decode cX8_readQuarrel 30 = .ok (.iconst 1, 1) := by decide +kernel
theorem dX8_readQuarrel_31 : decode cX8_readQuarrel 31 = .ok (.isub, 1) := by decide +kernel
theorem dX8_readQuarrel_32 : decode cX8_readQuarrel 32 = .ok (.iload_n 1, 1) := by decide +kernel
theorem dX8_readQuarrel_33 : decode cX8_readQuarrel 33 = .ok (.invokevirtual 165, 3) := by decide +kernel
theorem dX8_readQuarrel_36 : decode cX8_readQuarrel 36 = .ok (.istore_n 2, 1) := by decide +kernel
theorem dX8_readQuarrel_37 : decode cX8_readQuarrel 37 = .ok (.aload_n 0, 1) := by decide +kernel
theorem dX8_readQuarrel_38 : decode cX8_readQuarrel 38 = .ok (.invokevirtual 169, 3) := by decide +kernel
theorem dX8_readQuarrel_41 : decode cX8_readQuarrel 41 = .ok (.aload_n 0, 1) := by decide +kernel
theorem dX8_readQuarrel_42 : decode cX8_readQuarrel 42 = .ok (.getfield 126, 3) := by decide +kernel
theorem dX8_readQuarrel_45 : decode cX8_readQuarrel 45 = .ok (.ifCond .ne 52, 3) := by decide +kernel
theorem dX8_readQuarrel_48 : decode cX8_readQuarrel 48 = .ok (.aload_n 0, 1) := by decide +kernel
theorem dX8_readQuarrel_49 : decode cX8_readQuarrel 49 = .ok (.getfield 22, 3) := by decide +kernel
theorem dX8_readQuarrel_52 : decode cX8_readQuarrel 52 = .ok (.bipush 72, 2) := by decide +kernel
theorem dX8_readQuarrel_54 : decode cX8_readQuarrel 54 = .ok (.iconst 4, 1) := by decide +kernel
theorem dX8_readQuarrel_55 : decode cX8_readQuarrel 55 = .ok (.iload_n 1, 1) := by decide +kernel
theorem dX8_readQuarrel_56 : decode cX8_readQuarrel 56 = .ok (.imul, 1) := by decide +kernel
theorem dX8_readQuarrel_57 : decode cX8_readQuarrel 57 = .ok (.iadd, 1) := by decide +kernel
theorem dX8_readQuarrel_58 : decode cX8_readQuarrel 58 = .ok (.iconst 3, 1) := by decide +kernel
theorem dX8_readQuarrel_59 : decode cX8_readQuarrel 59 = .ok (.iadd, 1) := by decide +kernel
theorem dX8_readQuarrel_60 : decode cX8_readQuarrel 60 = .ok (.dup2, 1) := by decide +kernel
theorem dX8_readQuarrel_61 : decode cX8_readQuarrel 61 = .ok (.iaload, 1) := by decide +kernel
theorem dX8_readQuarrel_62 : decode cX8_readQuarrel 62 = .ok (.iconst 1, 1) := by decide +kernel
theorem dX8_readQuarrel_63 : decode cX8_readQuarrel 63 = .ok (.iload_n 2, 1) := by decide +kernel
theorem dX8_readQuarrel_64 : decode cX8_readQuarrel 64 = .ok (.ishl, 1) := by decide +kernel
theorem dX8_readQuarrel_65 : decode cX8_readQuarrel 65 = .ok (.ior, 1) := by decide +kernel
theorem dX8_readQuarrel_66 : decode cX8_readQuarrel 66 = .ok (.iastore, 1) := by decide +kernel
theorem dX8_readQuarrel_67 : decode cX8_readQuarrel 67 = .ok (.aload_n 0, 1) := by decide +kernel
theorem dX8_readQuarrel_68 : decode cX8_readQuarrel 68 = .ok (.getfield 22, 3) := by decide +kernel
theorem dX8_readQuarrel_71 : decode cX8_readQuarrel 71 = .ok (.bipush 72, 2) := by decide +kernel
theorem dX8_readQuarrel_73 : decode cX8_readQuarrel 73 = .ok (.iconst 4, 1) := by decide +kernel
theorem dX8_readQuarrel_74 : decode cX8_readQuarrel 74 = .ok (.iload_n 2, 1) := by decide +kernel
theorem dX8_readQuarrel_75 : decode cX8_readQuarrel 75 = .ok (.imul, 1) := by decide +kernel
theorem dX8_readQuarrel_76 : decode cX8_readQuarrel 76 = .ok (.iadd, 1) := by decide +kernel
theorem dX8_readQuarrel_77 : decode cX8_readQuarrel 77 = .ok (.iconst 3, 1) := by decide +kernel
theorem dX8_readQuarrel_78 : decode cX8_readQuarrel 78 = .ok (.iadd, 1) := by decide +kernel
theorem dX8_readQuarrel_79 : decode cX8_readQuarrel 79 = .ok (.dup2, 1) := by decide +kernel
theorem dX8_readQuarrel_80 : decode cX8_readQuarrel 80 = .ok (.iaload, 1) := by decide +kernel
theorem dX8_readQuarrel_81 : decode cX8_readQuarrel 81 = .ok (.iconst 1, 1) := by decide +kernel
theorem dX8_readQuarrel_82 : decode cX8_readQuarrel 82 = .ok (.iload_n 1, 1) := by decide +kernel
theorem dX8_readQuarrel_83 : decode cX8_readQuarrel 83 = .ok (.ishl, 1) := by decide +kernel
theorem dX8_readQuarrel_84 : decode cX8_readQuarrel 84 = .ok (.ior, 1) := by decide +kernel
theorem dX8_readQuarrel_85 : decode cX8_readQuarrel 85 = .ok (.iastore, 1) := by decide +kernel
theorem dX8_readQuarrel_86 : decode cX8_readQuarrel 86 = .ok (.aload_n 0, 1) := by decide +kernel
theorem dX8_readQuarrel_87 : decode cX8_readQuarrel 87 = .ok (.getfield 22, 3) := by decide +kernel
theorem dX8_readQuarrel_90 : decode cX8_readQuarrel 90 = .ok (.bipush 6, 2) := by decide +kernel
theorem dX8_readQuarrel_92 : decode cX8_readQuarrel 92 = .ok (.dup2, 1) := by decide +kernel
theorem dX8_readQuarrel_93 : decode cX8_readQuarrel 93 = .ok (.iaload, 1) := by decide +kernel
theorem dX8_readQuarrel_94 : decode cX8_readQuarrel 94 = .ok (.iconst 1, 1) := by decide +kernel
theorem dX8_readQuarrel_95 : decode cX8_readQuarrel 95 = .ok (.iadd, 1) := by decide +kernel
theorem dX8_readQuarrel_96 : decode cX8_readQuarrel 96 = .ok (.iastore, 1) := by decide +kernel
theorem dX8_readQuarrel_97 : decode cX8_readQuarrel 97 = .ok (.return_, 1) := by decide +kernel
theorem dX8_layFar_0 : decode cX8_layFar 0 = .ok (.iconst 0, 1) := by decide +kernel
theorem dX8_layFar_1 : decode cX8_layFar 1 = .ok (.istore_n 1, 1) := by decide +kernel
theorem dX8_layFar_2 : decode cX8_layFar 2 = .ok (.iload_n 1, 1) := by decide +kernel
theorem dX8_layFar_3 : decode cX8_layFar 3 = .ok (.bipush 8, 2) := by decide +kernel
theorem dX8_layFar_5 : decode cX8_layFar 5 = .ok (.if_icmp .ge 120, 3) := by decide +kernel
theorem dX8_layFar_8 : decode cX8_layFar 8 = .ok (.iconst 0, 1) := by decide +kernel
theorem dX8_layFar_9 : decode cX8_layFar 9 = .ok (.istore_n 2, 1) := by decide +kernel
theorem dX8_layFar_10 : decode cX8_layFar 10 = .ok (.iload_n 2, 1) := by decide +kernel
theorem dX8_layFar_11 : decode cX8_layFar 11 = .ok (.bipush 8, 2) := by decide +kernel
theorem dX8_layFar_13 : decode cX8_layFar 13 = .ok (.if_icmp .ge 106, 3) := by decide +kernel
theorem dX8_layFar_16 : decode cX8_layFar 16 = .ok (.iconst 0, 1) := by decide +kernel
theorem dX8_layFar_17 : decode cX8_layFar 17 = .ok (.istore_n 3, 1) := by decide +kernel
theorem dX8_layFar_18 : decode cX8_layFar 18 = .ok (.iload_n 3, 1) := by decide +kernel
theorem dX8_layFar_19 : decode cX8_layFar 19 = .ok (.bipush 8, 2) := by decide +kernel
theorem dX8_layFar_21 : decode cX8_layFar 21 = .ok (.if_icmp .ge 92, 3) := by decide +kernel
theorem dX8_layFar_24 : decode cX8_layFar 24 = .ok (.aload_n 0, 1) := by decide +kernel
theorem dX8_layFar_25 : decode cX8_layFar 25 = .ok (.getfield 22, 3) := by decide +kernel
theorem dX8_layFar_28 : decode cX8_layFar 28 = .ok (.bipush 8, 2) := by decide +kernel
theorem dX8_layFar_30 : decode cX8_layFar 30 = .ok (.bipush 8, 2) := by decide +kernel
theorem dX8_layFar_32 : decode cX8_layFar 32 = .ok (.iload_n 2, 1) := by decide +kernel
theorem dX8_layFar_33 : decode cX8_layFar 33 = .ok (.imul, 1) := by decide +kernel
theorem dX8_layFar_34 : decode cX8_layFar 34 = .ok (.iadd, 1) := by decide +kernel
theorem dX8_layFar_35 : decode cX8_layFar 35 = .ok (.iload_n 1, 1) := by decide +kernel
theorem dX8_layFar_36 : decode cX8_layFar 36 = .ok (.iadd, 1) := by decide +kernel
theorem dX8_layFar_37 : decode cX8_layFar 37 = .ok (.iaload, 1) := by decide +kernel
theorem dX8_layFar_38 : decode cX8_layFar 38 = .ok (.aload_n 0, 1) := by decide +kernel
theorem dX8_layFar_39 : decode cX8_layFar 39 = .ok (.getfield 22, 3) := by decide +kernel
theorem dX8_layFar_42 : decode cX8_layFar 42 = .ok (.bipush 8, 2) := by decide +kernel
theorem dX8_layFar_44 : decode cX8_layFar 44 = .ok (.bipush 8, 2) := by decide +kernel
theorem dX8_layFar_46 : decode cX8_layFar 46 = .ok (.iload_n 1, 1) := by decide +kernel
theorem dX8_layFar_47 : decode cX8_layFar 47 = .ok (.imul, 1) := by decide +kernel
theorem dX8_layFar_48 : decode cX8_layFar 48 = .ok (.iadd, 1) := by decide +kernel
theorem dX8_layFar_49 : decode cX8_layFar 49 = .ok (.iload_n 3, 1) := by decide +kernel
theorem dX8_layFar_50 : decode cX8_layFar 50 = .ok (.iadd, 1) := by decide +kernel
theorem dX8_layFar_51 : decode cX8_layFar 51 = .ok (.iaload, 1) := by decide +kernel
theorem dX8_layFar_52 : decode cX8_layFar 52 = .ok (.iadd, 1) := by decide +kernel
theorem dX8_layFar_53 : decode cX8_layFar 53 = .ok (.istore 4, 2) := by decide +kernel
theorem dX8_layFar_55 : decode cX8_layFar 55 = .ok (.aload_n 0, 1) := by decide +kernel
theorem dX8_layFar_56 : decode cX8_layFar 56 = .ok (.getfield 22, 3) := by decide +kernel
theorem dX8_layFar_59 : decode cX8_layFar 59 = .ok (.bipush 8, 2) := by decide +kernel
theorem dX8_layFar_61 : decode cX8_layFar 61 = .ok (.bipush 8, 2) := by decide +kernel
theorem dX8_layFar_63 : decode cX8_layFar 63 = .ok (.iload_n 2, 1) := by decide +kernel
theorem dX8_layFar_64 : decode cX8_layFar 64 = .ok (.imul, 1) := by decide +kernel
theorem dX8_layFar_65 : decode cX8_layFar 65 = .ok (.iadd, 1) := by decide +kernel
theorem dX8_layFar_66 : decode cX8_layFar 66 = .ok (.iload_n 3, 1) := by decide +kernel
theorem dX8_layFar_67 : decode cX8_layFar 67 = .ok (.iadd, 1) := by decide +kernel
theorem dX8_layFar_68 : decode cX8_layFar 68 = .ok (.iload 4, 2) := by decide +kernel
theorem dX8_layFar_70 : decode cX8_layFar 70 = .ok (.aload_n 0, 1) := by decide +kernel
theorem dX8_layFar_71 : decode cX8_layFar 71 = .ok (.getfield 22, 3) := by decide +kernel
theorem dX8_layFar_74 : decode cX8_layFar 74 = .ok (.bipush 8, 2) := by decide +kernel
theorem dX8_layFar_76 : decode cX8_layFar 76 = .ok (.bipush 8, 2) := by decide +kernel
theorem dX8_layFar_78 : decode cX8_layFar 78 = .ok (.iload_n 2, 1) := by decide +kernel
theorem dX8_layFar_79 : decode cX8_layFar 79 = .ok (.imul, 1) := by decide +kernel
theorem dX8_layFar_80 : decode cX8_layFar 80 = .ok (.iadd, 1) := by decide +kernel
theorem dX8_layFar_81 : decode cX8_layFar 81 = .ok (.iload_n 3, 1) := by decide +kernel
theorem dX8_layFar_82 : decode cX8_layFar 82 = .ok (.iadd, 1) := by decide +kernel
theorem dX8_layFar_83 : decode cX8_layFar 83 = .ok (.iaload, 1) := by decide +kernel
theorem dX8_layFar_84 : decode cX8_layFar 84 = .ok (.if_icmp .ge 8, 3) := by decide +kernel
theorem dX8_layFar_87 : decode cX8_layFar 87 = .ok (.iload 4, 2) := by decide +kernel
theorem dX8_layFar_89 : decode cX8_layFar 89 = .ok (.goto 17, 3) := by decide +kernel
theorem dX8_layFar_92 : decode cX8_layFar 92 = .ok (.aload_n 0, 1) := by decide +kernel
theorem dX8_layFar_93 : decode cX8_layFar 93 = .ok (.getfield 22, 3) := by decide +kernel
theorem dX8_layFar_96 : decode cX8_layFar 96 = .ok (.bipush 8, 2) := by decide +kernel
theorem dX8_layFar_98 : decode cX8_layFar 98 = .ok (.bipush 8, 2) := by decide +kernel
theorem dX8_layFar_100 : decode cX8_layFar 100 = .ok (.iload_n 2, 1) := by decide +kernel
theorem dX8_layFar_101 : decode cX8_layFar 101 = .ok (.imul, 1) := by decide +kernel
theorem dX8_layFar_102 : decode cX8_layFar 102 = .ok (.iadd, 1) := by decide +kernel
theorem dX8_layFar_103 : decode cX8_layFar 103 = .ok (.iload_n 3, 1) := by decide +kernel
theorem dX8_layFar_104 : decode cX8_layFar 104 = .ok (.iadd, 1) := by decide +kernel
theorem dX8_layFar_105 : decode cX8_layFar 105 = .ok (.iaload, 1) := by decide +kernel
theorem dX8_layFar_106 : decode cX8_layFar 106 = .ok (.iastore, 1) := by decide +kernel
theorem dX8_layFar_107 : decode cX8_layFar 107 = .ok (.iinc 3 1, 3) := by decide +kernel
theorem dX8_layFar_110 : decode cX8_layFar 110 = .ok (.goto (-92), 3) := by decide +kernel
theorem dX8_layFar_113 : decode cX8_layFar 113 = .ok (.iinc 2 1, 3) := by decide +kernel
theorem dX8_layFar_116 : decode cX8_layFar 116 = .ok (.goto (-106), 3) := by decide +kernel
theorem dX8_layFar_119 : decode cX8_layFar 119 = .ok (.iinc 1 1, 3) := by decide +kernel
theorem dX8_layFar_122 : decode cX8_layFar 122 = .ok (.goto (-120), 3) := by decide +kernel
theorem dX8_layFar_125 : decode cX8_layFar 125 = .ok (.return_, 1) := by decide +kernel
theorem dX8_evening_0 : decode cX8_evening 0 = .ok (.aload_n 0, 1) := by decide +kernel
theorem dX8_evening_1 : decode cX8_evening 1 = .ok (.iconst 0, 1) := by decide +kernel
theorem dX8_evening_2 : decode cX8_evening 2 = .ok (.putfield 68, 3) := by decide +kernel
theorem dX8_evening_5 : decode cX8_evening 5 = .ok (.aload_n 0, 1) := by decide +kernel
theorem dX8_evening_6 : decode cX8_evening 6 = .ok (.invokevirtual 183, 3) := by decide +kernel
theorem dX8_evening_9 : decode cX8_evening 9 = .ok (.iconst 0, 1) := by decide +kernel
theorem dX8_evening_10 : decode cX8_evening 10 = .ok (.istore_n 1, 1) := by decide +kernel
theorem dX8_evening_11 : decode cX8_evening 11 = .ok (.iload_n 1, 1) := by decide +kernel
theorem dX8_evening_12 : decode cX8_evening 12 = .ok (.bipush 109, 2) := by decide +kernel
theorem dX8_evening_14 : decode cX8_evening 14 = .ok (.if_icmp .ge 34, 3) := by decide +kernel
theorem dX8_evening_17 : decode cX8_evening 17 = .ok (.aload_n 0, 1) := by decide +kernel
theorem dX8_evening_18 : decode cX8_evening 18 = .ok (.getfield 22, 3) := by decide +kernel
theorem dX8_evening_21 : decode cX8_evening 21 = .ok (.iload_n 1, 1) := by decide +kernel
theorem dX8_evening_22 : decode cX8_evening 22 = .ok (.iload_n 1, 1) := by decide +kernel
theorem dX8_evening_23 : decode cX8_evening 23 = .ok (.bipush 8, 2) := by decide +kernel
theorem dX8_evening_25 : decode cX8_evening 25 = .ok (.if_icmp .lt 15, 3) := by decide +kernel
theorem dX8_evening_28 : decode cX8_evening 28 = .ok (.iload_n 1, 1) := by decide +kernel
theorem dX8_evening_29 : decode cX8_evening 29 = .ok (.bipush 72, 2) := by decide +kernel
theorem dX8_evening_31 : decode cX8_evening 31 = .ok (.if_icmp .ge 9, 3) := by decide +kernel
theorem dX8_evening_34 : decode cX8_evening 34 = .ok (.sipush 10000, 3) := by decide +kernel
theorem dX8_evening_37 : decode cX8_evening 37 = .ok (.goto 4, 3) := by decide +kernel
theorem dX8_evening_40 : decode cX8_evening 40 = .ok (.iconst 0, 1) := by decide +kernel
theorem dX8_evening_41 : decode cX8_evening 41 = .ok (.iastore, 1) := by decide +kernel
theorem dX8_evening_42 : decode cX8_evening 42 = .ok (.iinc 1 1, 3) := by decide +kernel
theorem dX8_evening_45 : decode cX8_evening 45 = .ok (.goto (-34), 3) := by decide +kernel
theorem dX8_evening_48 : decode cX8_evening 48 = .ok (.iconst 0, 1) := by decide +kernel
theorem dX8_evening_49 : decode cX8_evening 49 = .ok (.istore_n 1, 1) := by decide +kernel
theorem dX8_evening_50 : decode cX8_evening 50 = .ok (.iload_n 1, 1) := by decide +kernel
theorem dX8_evening_51 : decode cX8_evening 51 = .ok (.bipush 8, 2) := by decide +kernel
theorem dX8_evening_53 : decode cX8_evening 53 = .ok (.if_icmp .ge 22, 3) := by decide +kernel
theorem dX8_evening_56 : decode cX8_evening 56 = .ok (.aload_n 0, 1) := by decide +kernel
theorem dX8_evening_57 : decode cX8_evening 57 = .ok (.getfield 22, 3) := by decide +kernel
theorem dX8_evening_60 : decode cX8_evening 60 = .ok (.bipush 8, 2) := by decide +kernel
theorem dX8_evening_62 : decode cX8_evening 62 = .ok (.bipush 9, 2) := by decide +kernel
theorem dX8_evening_64 : decode cX8_evening 64 = .ok (.iload_n 1, 1) := by decide +kernel
theorem dX8_evening_65 : decode cX8_evening 65 = .ok (.imul, 1) := by decide +kernel
theorem dX8_evening_66 : decode cX8_evening 66 = .ok (.iadd, 1) := by decide +kernel
theorem dX8_evening_67 : decode cX8_evening 67 = .ok (.iconst 0, 1) := by decide +kernel
theorem dX8_evening_68 : decode cX8_evening 68 = .ok (.iastore, 1) := by decide +kernel
theorem dX8_evening_69 : decode cX8_evening 69 = .ok (.iinc 1 1, 3) := by decide +kernel
theorem dX8_evening_72 : decode cX8_evening 72 = .ok (.goto (-22), 3) := by decide +kernel
theorem dX8_evening_75 : decode cX8_evening 75 = .ok (.aload_n 0, 1) := by decide +kernel
theorem dX8_evening_76 : decode cX8_evening 76 = .ok (.aload_n 0, 1) := by decide +kernel
theorem dX8_evening_77 : decode cX8_evening 77 = .ok (.invokevirtual 172, 3) := by decide +kernel
theorem dX8_evening_80 : decode cX8_evening 80 = .ok (.ldc2_w 186, 3) := by decide +kernel
theorem dX8_evening_83 : decode cX8_evening 83 = .ok (.lcmp, 1) := by decide +kernel
theorem dX8_evening_84 : decode cX8_evening 84 = .ok (.ifCond .ne 7, 3) := by decide +kernel
theorem dX8_evening_87 : decode cX8_evening 87 = .ok (.iconst 1, 1) := by decide +kernel
theorem dX8_evening_88 : decode cX8_evening 88 = .ok (.goto 4, 3) := by decide +kernel
theorem dX8_evening_91 : decode cX8_evening 91 = .ok (.iconst 0, 1) := by decide +kernel
theorem dX8_evening_92 : decode cX8_evening 92 = .ok (.invokevirtual 143, 3) := by decide +kernel
theorem dX8_evening_95 : decode cX8_evening 95 = .ok (.aload_n 0, 1) := by decide +kernel
theorem dX8_evening_96 : decode cX8_evening 96 = .ok (.getfield 22, 3) := by decide +kernel
theorem dX8_evening_99 : decode cX8_evening 99 = .ok (.iconst 0, 1) := by decide +kernel
theorem dX8_evening_100 : decode cX8_evening 100 = .ok (.aload_n 0, 1) := by decide +kernel
theorem dX8_evening_101 : decode cX8_evening 101 = .ok (.iconst 0, 1) := by decide +kernel
theorem dX8_evening_102 : decode cX8_evening 102 = .ok (.bipush 50, 2) := by decide +kernel
theorem dX8_evening_104 : decode cX8_evening 104 = .ok (.invokevirtual 157, 3) := by decide +kernel
theorem dX8_evening_107 : decode cX8_evening 107 = .ok (.iastore, 1) := by decide +kernel
theorem dX8_evening_108 : decode cX8_evening 108 = .ok (.aload_n 0, 1) := by decide +kernel
theorem dX8_evening_109 : decode cX8_evening 109 = .ok (.getfield 22, 3) := by decide +kernel
theorem dX8_evening_112 : decode cX8_evening 112 = .ok (.iconst 1, 1) := by decide +kernel
theorem dX8_evening_113 : decode cX8_evening 113 = .ok (.aload_n 0, 1) := by decide +kernel
theorem dX8_evening_114 : decode cX8_evening 114 = .ok (.iconst 1, 1) := by decide +kernel
theorem dX8_evening_115 : decode cX8_evening 115 = .ok (.bipush 20, 2) := by decide +kernel
theorem dX8_evening_117 : decode cX8_evening 117 = .ok (.invokevirtual 157, 3) := by decide +kernel
theorem dX8_evening_120 : decode cX8_evening 120 = .ok (.iastore, 1) := by decide +kernel
theorem dX8_evening_121 : decode cX8_evening 121 = .ok (.aload_n 0, 1) := by decide +kernel
theorem dX8_evening_122 : decode cX8_evening 122 = .ok (.invokevirtual 169, 3) := by decide +kernel
theorem dX8_evening_125 : decode cX8_evening 125 = .ok (.aload_n 0, 1) := by decide +kernel
theorem dX8_evening_126 : decode cX8_evening 126 = .ok (.invokevirtual 172, 3) := by decide +kernel
theorem dX8_evening_129 : decode cX8_evening 129 = .ok (.ldc2_w 188, 3) := by decide +kernel
theorem dX8_evening_132 : decode cX8_evening 132 = .ok (.lcmp, 1) := by decide +kernel
theorem dX8_evening_133 : decode cX8_evening 133 = .ok (.ifCond .ne 10, 3) := by decide +kernel
theorem dX8_evening_136 : decode cX8_evening 136 = .ok (.aload_n 0, 1) := by decide +kernel
theorem dX8_evening_137 : decode cX8_evening 137 = .ok (.invokevirtual 190, 3) := by decide +kernel
theorem dX8_evening_140 : decode cX8_evening 140 = .ok (.goto (-15), 3) := by decide +kernel
theorem dX8_evening_143 : decode cX8_evening 143 = .ok (.aload_n 0, 1) := by decide +kernel
theorem dX8_evening_144 : decode cX8_evening 144 = .ok (.invokevirtual 172, 3) := by decide +kernel
theorem dX8_evening_147 : decode cX8_evening 147 = .ok (.ldc2_w 193, 3) := by decide +kernel
theorem dX8_evening_150 : decode cX8_evening 150 = .ok (.lcmp, 1) := by decide +kernel
theorem dX8_evening_151 : decode cX8_evening 151 = .ok (.ifCond .ne 10, 3) := by decide +kernel
theorem dX8_evening_154 : decode cX8_evening 154 = .ok (.aload_n 0, 1) := by decide +kernel
theorem dX8_evening_155 : decode cX8_evening 155 = .ok (.invokevirtual 195, 3) := by decide +kernel
theorem dX8_evening_158 : decode cX8_evening 158 = .ok (.goto (-15), 3) := by decide +kernel
theorem dX8_evening_161 : decode cX8_evening 161 = .ok (.aload_n 0, 1) := by decide +kernel
theorem dX8_evening_162 : decode cX8_evening 162 = .ok (.invokevirtual 172, 3) := by decide +kernel
theorem dX8_evening_165 : decode cX8_evening 165 = .ok (.ldc2_w 198, 3) := by decide +kernel
theorem dX8_evening_168 : decode cX8_evening 168 = .ok (.lcmp, 1) := by decide +kernel
theorem dX8_evening_169 : decode cX8_evening 169 = .ok (.ifCond .ne 10, 3) := by decide +kernel
theorem dX8_evening_172 : decode cX8_evening 172 = .ok (.aload_n 0, 1) := by decide +kernel
theorem dX8_evening_173 : decode cX8_evening 173 = .ok (.invokevirtual 200, 3) := by decide +kernel
theorem dX8_evening_176 : decode cX8_evening 176 = .ok (.goto (-15), 3) := by decide +kernel
theorem dX8_evening_179 : decode cX8_evening 179 = .ok (.aload_n 0, 1) := by decide +kernel
theorem dX8_evening_180 : decode cX8_evening 180 = .ok (.invokevirtual 172, 3) := by decide +kernel
theorem dX8_evening_183 : decode cX8_evening 183 = .ok (.ldc2_w 203, 3) := by decide +kernel
theorem dX8_evening_186 : decode cX8_evening 186 = .ok (.lcmp, 1) := by decide +kernel
theorem dX8_evening_187 : decode cX8_evening 187 = .ok (.ifCond .ne 10, 3) := by decide +kernel
theorem dX8_evening_190 : decode cX8_evening 190 = .ok (.aload_n 0, 1) := by decide +kernel
theorem dX8_evening_191 : decode cX8_evening 191 = .ok (.invokevirtual 205, 3) := by decide +kernel
theorem dX8_evening_194 : decode cX8_evening 194 = .ok (.goto (-15), 3) := by decide +kernel
theorem dX8_evening_197 : decode cX8_evening 197 = .ok (.aload_n 0, 1) := by decide +kernel
theorem dX8_evening_198 : decode cX8_evening 198 = .ok (.invokevirtual 172, 3) := by decide +kernel
theorem dX8_evening_201 : decode cX8_evening 201 = .ok (.ldc2_w 208, 3) := by decide +kernel
theorem dX8_evening_204 : decode cX8_evening 204 = .ok (.lcmp, 1) := by decide +kernel
theorem dX8_evening_205 : decode cX8_evening 205 = .ok (.ifCond .ne 10, 3) := by decide +kernel
theorem dX8_evening_208 : decode cX8_evening 208 = .ok (.aload_n 0, 1) := by decide +kernel
theorem dX8_evening_209 : decode cX8_evening 209 = .ok (.invokevirtual 210, 3) := by decide +kernel
theorem dX8_evening_212 : decode cX8_evening 212 = .ok (.goto (-15), 3) := by decide +kernel
theorem dX8_evening_215 : decode cX8_evening 215 = .ok (.aload_n 0, 1) := by decide +kernel
theorem dX8_evening_216 : decode cX8_evening 216 = .ok (.getfield 126, 3) := by decide +kernel
theorem dX8_evening_219 : decode cX8_evening 219 = .ok (.ifCond .ne 16, 3) := by decide +kernel
theorem dX8_evening_222 : decode cX8_evening 222 = .ok (.aload_n 0, 1) := by decide +kernel
theorem dX8_evening_223 : decode cX8_evening 223 = .ok (.getfield 114, 3) := by decide +kernel
theorem dX8_evening_226 : decode cX8_evening 226 = .ok (.iconst 1, 1) := by decide +kernel
theorem dX8_evening_227 : decode cX8_evening 227 = .ok (.if_icmp .eq 8, 3) := by decide +kernel
theorem dX8_evening_230 : decode cX8_evening 230 = .ok (.aload_n 0, 1) := by decide +kernel
theorem dX8_evening_231 : decode cX8_evening 231 = .ok (.iconst 1, 1) := by decide +kernel
theorem dX8_evening_232 : decode cX8_evening 232 = .ok (.invokevirtual 135, 3) := by decide +kernel
theorem dX8_evening_235 : decode cX8_evening 235 = .ok (.aload_n 0, 1) := by decide +kernel
theorem dX8_evening_236 : decode cX8_evening 236 = .ok (.getfield 126, 3) := by decide +kernel
theorem dX8_evening_239 : decode cX8_evening 239 = .ok (.ifCond .le 19, 3) := by decide +kernel
theorem dX8_evening_242 : decode cX8_evening 242 = .ok (.aload_n 0, 1) := by decide +kernel
theorem dX8_evening_243 : decode cX8_evening 243 = .ok (.aload_n 0, 1) := by decide +kernel
theorem dX8_evening_244 : decode cX8_evening 244 = .ok (.getfield 126, 3) := by decide +kernel
theorem dX8_evening_247 : decode cX8_evening 247 = .ok (.putfield 213, 3) := by decide +kernel
theorem dX8_evening_250 : decode cX8_evening 250 = .ok (.ldc 216, 2) := by decide +kernel
theorem dX8_evening_252 : decode cX8_evening 252 = .ok (.aload_n 0, 1) := by decide +kernel
theorem dX8_evening_253 : decode cX8_evening 253 = .ok (.getfield 132, 3) := by decide +kernel
theorem dX8_evening_256 : decode cX8_evening 256 = .ok (.isub, 1) := by decide +kernel
theorem dX8_evening_257 : decode cX8_evening 257 = .ok (.ireturn, 1) := by decide +kernel
theorem dX8_evening_258 : decode cX8_evening 258 = .ok (.aload_n 0, 1) := by decide +kernel
theorem dX8_evening_259 : decode cX8_evening 259 = .ok (.iconst 1, 1) := by decide +kernel
theorem dX8_evening_260 : decode cX8_evening 260 = .ok (.putfield 217, 3) := by decide +kernel
theorem dX8_evening_263 : decode cX8_evening 263 = .ok (.aload_n 0, 1) := by decide +kernel
theorem dX8_evening_264 : decode cX8_evening 264 = .ok (.iconst 0, 1) := by decide +kernel
theorem dX8_evening_265 : decode cX8_evening 265 = .ok (.putfield 221, 3) := by decide +kernel
theorem dX8_evening_268 : decode cX8_evening 268 = .ok (.aload_n 0, 1) := by decide +kernel
theorem dX8_evening_269 : decode cX8_evening 269 = .ok (.invokevirtual 224, 3) := by decide +kernel
theorem dX8_evening_272 : decode cX8_evening 272 = .ok (.iconst 0, 1) := by decide +kernel
theorem dX8_evening_273 : decode cX8_evening 273 = .ok (.istore_n 1, 1) := by decide +kernel
theorem dX8_evening_274 : decode cX8_evening 274 = .ok (.iload_n 1, 1) := by decide +kernel
theorem dX8_evening_275 : decode cX8_evening 275 = .ok (.bipush 109, 2) := by decide +kernel
theorem dX8_evening_277 : decode cX8_evening 277 = .ok (.if_icmp .ge 21, 3) := by decide +kernel
theorem dX8_evening_280 : decode cX8_evening 280 = .ok (.aload_n 0, 1) := by decide +kernel
theorem dX8_evening_281 : decode cX8_evening 281 = .ok (.getfield 19, 3) := by decide +kernel
theorem dX8_evening_284 : decode cX8_evening 284 = .ok (.iload_n 1, 1) := by decide +kernel
theorem dX8_evening_285 : decode cX8_evening 285 = .ok (.aload_n 0, 1) := by decide +kernel
theorem dX8_evening_286 : decode cX8_evening 286 = .ok (.getfield 22, 3) := by decide +kernel
theorem dX8_evening_289 : decode cX8_evening 289 = .ok (.iload_n 1, 1) := by decide +kernel
theorem dX8_evening_290 : decode cX8_evening 290 = .ok (.iaload, 1) := by decide +kernel
theorem dX8_evening_291 : decode cX8_evening 291 = .ok (.iastore, 1) := by decide +kernel
theorem dX8_evening_292 : decode cX8_evening 292 = .ok (.iinc 1 1, 3) := by decide +kernel
theorem dX8_evening_295 : decode cX8_evening 295 = .ok (.goto (-21), 3) := by decide +kernel
theorem dX8_evening_298 : decode cX8_evening 298 = .ok (.aload_n 0, 1) := by decide +kernel
theorem dX8_evening_299 : decode cX8_evening 299 = .ok (.getfield 19, 3) := by decide +kernel
theorem dX8_evening_302 : decode cX8_evening 302 = .ok (.iconst 4, 1) := by decide +kernel
theorem dX8_evening_303 : decode cX8_evening 303 = .ok (.iaload, 1) := by decide +kernel
theorem dX8_evening_304 : decode cX8_evening 304 = .ok (.ireturn, 1) := by decide +kernel
theorem dX8_fault_0 : decode cX8_fault 0 = .ok (.aload_n 0, 1) := by decide +kernel
theorem dX8_fault_1 : decode cX8_fault 1 = .ok (.iconst 0, 1) := by decide +kernel
theorem dX8_fault_2 : decode cX8_fault 2 = .ok (.putfield 68, 3) := by decide +kernel
theorem dX8_fault_5 : decode cX8_fault 5 = .ok (.aload_n 0, 1) := by decide +kernel
theorem dX8_fault_6 : decode cX8_fault 6 = .ok (.getfield 213, 3) := by decide +kernel
theorem dX8_fault_9 : decode cX8_fault 9 = .ok (.ireturn, 1) := by decide +kernel
theorem dX8_isPerson_0 : decode cX8_isPerson 0 = .ok (.iload_n 1, 1) := by decide +kernel
theorem dX8_isPerson_1 : decode cX8_isPerson 1 = .ok (.i2l, 1) := by decide +kernel
theorem dX8_isPerson_2 : decode cX8_isPerson 2 = .ok (.lconst 0, 1) := by decide +kernel
theorem dX8_isPerson_3 : decode cX8_isPerson 3 = .ok (.aload_n 0, 1) := by decide +kernel
theorem dX8_isPerson_4 : decode cX8_isPerson 4 = .ok (.getfield 19, 3) := by decide +kernel
theorem dX8_isPerson_7 : decode cX8_isPerson 7 = .ok (.iconst 4, 1) := by decide +kernel
theorem dX8_isPerson_8 : decode cX8_isPerson 8 = .ok (.iaload, 1) := by decide +kernel
theorem dX8_isPerson_9 : decode cX8_isPerson 9 = .ok (.iconst 1, 1) := by decide +kernel
theorem dX8_isPerson_10 : decode cX8_isPerson 10 = .ok (.isub, 1) := by decide +kernel
theorem dX8_isPerson_11 : decode cX8_isPerson 11 = .ok (.i2l, 1) := by decide +kernel
theorem dX8_isPerson_12 : decode cX8_isPerson 12 = .ok (.invokestatic 78, 3) := by decide +kernel
theorem dX8_isPerson_15 : decode cX8_isPerson 15 = .ok (.ireturn, 1) := by decide +kernel
theorem dX8_isCar_0 : decode cX8_isCar 0 = .ok (.iload_n 1, 1) := by decide +kernel
theorem dX8_isCar_1 : decode cX8_isCar 1 = .ok (.i2l, 1) := by decide +kernel
theorem dX8_isCar_2 : decode cX8_isCar 2 = .ok (.lconst 0, 1) := by decide +kernel
theorem dX8_isCar_3 : decode cX8_isCar 3 = .ok (.aload_n 0, 1) := by decide +kernel
theorem dX8_isCar_4 : decode cX8_isCar 4 = .ok (.getfield 19, 3) := by decide +kernel
theorem dX8_isCar_7 : decode cX8_isCar 7 = .ok (.iconst 5, 1) := by decide +kernel
theorem dX8_isCar_8 : decode cX8_isCar 8 = .ok (.iaload, 1) := by decide +kernel
theorem dX8_isCar_9 : decode cX8_isCar 9 = .ok (.iconst 1, 1) := by decide +kernel
theorem dX8_isCar_10 : decode cX8_isCar 10 = .ok (.isub, 1) := by decide +kernel
theorem dX8_isCar_11 : decode cX8_isCar 11 = .ok (.i2l, 1) := by decide +kernel
theorem dX8_isCar_12 : decode cX8_isCar 12 = .ok (.invokestatic 78, 3) := by decide +kernel
theorem dX8_isCar_15 : decode cX8_isCar 15 = .ok (.ireturn, 1) := by decide +kernel
theorem dX8_isMinute_0 : decode cX8_isMinute 0 = .ok (.iload_n 0, 1) := by decide +kernel
theorem dX8_isMinute_1 : decode cX8_isMinute 1 = .ok (.i2l, 1) := by decide +kernel
theorem dX8_isMinute_2 : decode cX8_isMinute 2 = .ok (.lconst 0, 1) := by decide +kernel
theorem dX8_isMinute_3 : decode cX8_isMinute 3 = .ok (.ldc2_w 227, 3) := by decide +kernel
theorem dX8_isMinute_6 : decode cX8_isMinute 6 = .ok (.invokestatic 78, 3) := by decide +kernel
theorem dX8_isMinute_9 : decode cX8_isMinute 9 = .ok (.ireturn, 1) := by decide +kernel
theorem dX8_of_0 : decode cX8_of 0 = .ok (.aload_n 0, 1) := by decide +kernel
theorem dX8_of_1 : decode cX8_of 1 = .ok (.getfield 19, 3) := by decide +kernel
theorem dX8_of_4 : decode cX8_of 4 = .ok (.bipush 72, 2) := by decide +kernel
theorem dX8_of_6 : decode cX8_of 6 = .ok (.iconst 4, 1) := by decide +kernel
theorem dX8_of_7 : decode cX8_of 7 = .ok (.iload_n 1, 1) := by decide +kernel
theorem dX8_of_8 : decode cX8_of 8 = .ok (.imul, 1) := by decide +kernel
theorem dX8_of_9 : decode cX8_of 9 = .ok (.iadd, 1) := by decide +kernel
theorem dX8_of_10 : decode cX8_of 10 = .ok (.iload_n 2, 1) := by decide +kernel
theorem dX8_of_11 : decode cX8_of 11 = .ok (.iadd, 1) := by decide +kernel
theorem dX8_of_12 : decode cX8_of 12 = .ok (.iaload, 1) := by decide +kernel
theorem dX8_of_13 : decode cX8_of 13 = .ok (.ireturn, 1) := by decide +kernel
theorem dX8_car0_0 : decode cX8_car0 0 = .ok (.aload_n 0, 1) := by decide +kernel
theorem dX8_car0_1 : decode cX8_car0 1 = .ok (.getfield 19, 3) := by decide +kernel
theorem dX8_car0_4 : decode cX8_car0 4 = .ok (.bipush 100, 2) := by decide +kernel
theorem dX8_car0_6 : decode cX8_car0 6 = .ok (.iconst 3, 1) := by decide +kernel
theorem dX8_car0_7 : decode cX8_car0 7 = .ok (.iload_n 1, 1) := by decide +kernel
theorem dX8_car0_8 : decode cX8_car0 8 = .ok (.imul, 1) := by decide +kernel
theorem dX8_car0_9 : decode cX8_car0 9 = .ok (.iadd, 1) := by decide +kernel
theorem dX8_car0_10 : decode cX8_car0 10 = .ok (.iload_n 2, 1) := by decide +kernel
theorem dX8_car0_11 : decode cX8_car0 11 = .ok (.iadd, 1) := by decide +kernel
theorem dX8_car0_12 : decode cX8_car0 12 = .ok (.iaload, 1) := by decide +kernel
theorem dX8_car0_13 : decode cX8_car0 13 = .ok (.ireturn, 1) := by decide +kernel
theorem dX8_carOf_0 : decode cX8_carOf 0 = .ok (.iconst 0, 1) := by decide +kernel
theorem dX8_carOf_1 : decode cX8_carOf 1 = .ok (.istore_n 2, 1) := by decide +kernel
theorem dX8_carOf_2 : decode cX8_carOf 2 = .ok (.iload_n 2, 1) := by decide +kernel
theorem dX8_carOf_3 : decode cX8_carOf 3 = .ok (.aload_n 0, 1) := by decide +kernel
theorem dX8_carOf_4 : decode cX8_carOf 4 = .ok (.getfield 19, 3) := by decide +kernel
theorem dX8_carOf_7 : decode cX8_carOf 7 = .ok (.iconst 5, 1) := by decide +kernel
theorem dX8_carOf_8 : decode cX8_carOf 8 = .ok (.iaload, 1) := by decide +kernel
theorem dX8_carOf_9 : decode cX8_carOf 9 = .ok (.if_icmp .ge 21, 3) := by decide +kernel
theorem dX8_carOf_12 : decode cX8_carOf 12 = .ok (.aload_n 0, 1) := by decide +kernel
theorem dX8_carOf_13 : decode cX8_carOf 13 = .ok (.iload_n 2, 1) := by decide +kernel
theorem dX8_carOf_14 : decode cX8_carOf 14 = .ok (.iconst 0, 1) := by decide +kernel
theorem dX8_carOf_15 : decode cX8_carOf 15 = .ok (.invokevirtual 229, 3) := by decide +kernel
theorem dX8_carOf_18 : decode cX8_carOf 18 = .ok (.iload_n 1, 1) := by decide +kernel
theorem dX8_carOf_19 : decode cX8_carOf 19 = .ok (.if_icmp .ne 5, 3) := by decide +kernel
theorem dX8_carOf_22 : decode cX8_carOf 22 = .ok (.iload_n 2, 1) := by decide +kernel
theorem dX8_carOf_23 : decode cX8_carOf 23 = .ok (.ireturn, 1) := by decide +kernel
theorem dX8_carOf_24 : decode cX8_carOf 24 = .ok (.iinc 2 1, 3) := by decide +kernel
theorem dX8_carOf_27 : decode cX8_carOf 27 = .ok (.goto (-25), 3) := by decide +kernel
theorem dX8_carOf_30 : decode cX8_carOf 30 = .ok (.ldc 104, 2) := by decide +kernel
theorem dX8_carOf_32 : decode cX8_carOf 32 = .ok (.ireturn, 1) := by decide +kernel
theorem dX8_drink_0 : decode cX8_drink 0 = .ok (.aload_n 0, 1) := by decide +kernel
theorem dX8_drink_1 : decode cX8_drink 1 = .ok (.iconst 0, 1) := by decide +kernel
theorem dX8_drink_2 : decode cX8_drink 2 = .ok (.putfield 68, 3) := by decide +kernel
theorem dX8_drink_5 : decode cX8_drink 5 = .ok (.aload_n 0, 1) := by decide +kernel
theorem dX8_drink_6 : decode cX8_drink 6 = .ok (.iload_n 1, 1) := by decide +kernel
theorem dX8_drink_7 : decode cX8_drink 7 = .ok (.invokevirtual 232, 3) := by decide +kernel
theorem dX8_drink_10 : decode cX8_drink 10 = .ok (.ifCond .eq 15, 3) := by decide +kernel
theorem dX8_drink_13 : decode cX8_drink 13 = .ok (.iload_n 2, 1) := by decide +kernel
theorem dX8_drink_14 : decode cX8_drink 14 = .ok (.i2l, 1) := by decide +kernel
theorem dX8_drink_15 : decode cX8_drink 15 = .ok (.lconst 1, 1) := by decide +kernel
theorem dX8_drink_16 : decode cX8_drink 16 = .ok (.ldc2_w 235, 3) := by decide +kernel
theorem dX8_drink_19 : decode cX8_drink 19 = .ok (.invokestatic 78, 3) := by decide +kernel
theorem dX8_drink_22 : decode cX8_drink 22 = .ok (.ifCond .ne 6, 3) := by decide +kernel
theorem dX8_drink_25 : decode cX8_drink 25 = .ok (.ldc 88, 2) := by decide +kernel
theorem dX8_drink_27 : decode cX8_drink 27 = .ok (.ireturn, 1) := by decide +kernel
theorem dX8_drink_28 : decode cX8_drink 28 = .ok (.aload_n 0, 1) := by decide +kernel
theorem dX8_drink_29 : decode cX8_drink 29 = .ok (.iload_n 1, 1) := by decide +kernel
theorem dX8_drink_30 : decode cX8_drink 30 = .ok (.iconst 2, 1) := by decide +kernel
theorem dX8_drink_31 : decode cX8_drink 31 = .ok (.invokevirtual 237, 3) := by decide +kernel
theorem dX8_drink_34 : decode cX8_drink 34 = .ok (.istore_n 3, 1) := by decide +kernel
theorem dX8_drink_35 : decode cX8_drink 35 = .ok (.iload_n 3, 1) := by decide +kernel
theorem dX8_drink_36 : decode cX8_drink 36 = .ok (.iload_n 2, 1) := by decide +kernel
theorem dX8_drink_37 : decode cX8_drink 37 = .ok (.iadd, 1) := by decide +kernel
theorem dX8_drink_38 : decode cX8_drink 38 = .ok (.bipush 99, 2) := by decide +kernel
theorem dX8_drink_40 : decode cX8_drink 40 = .ok (.if_icmp .le 6, 3) := by decide +kernel
theorem dX8_drink_43 : decode cX8_drink 43 = .ok (.ldc 98, 2) := by decide +kernel
theorem dX8_drink_45 : decode cX8_drink 45 = .ok (.ireturn, 1) := by decide +kernel
theorem dX8_drink_46 : decode cX8_drink 46 = .ok (.aload_n 0, 1) := by decide +kernel
theorem dX8_drink_47 : decode cX8_drink 47 = .ok (.getfield 221, 3) := by decide +kernel
theorem dX8_drink_50 : decode cX8_drink 50 = .ok (.bipush 24, 2) := by decide +kernel
theorem dX8_drink_52 : decode cX8_drink 52 = .ok (.if_icmp .ne 61, 3) := by decide +kernel
theorem dX8_drink_55 : decode cX8_drink 55 = .ok (.iconst 1, 1) := by decide +kernel
theorem dX8_drink_56 : decode cX8_drink 56 = .ok (.istore 4, 2) := by decide +kernel
theorem dX8_drink_58 : decode cX8_drink 58 = .ok (.iload 4, 2) := by decide +kernel
theorem dX8_drink_60 : decode cX8_drink 60 = .ok (.bipush 24, 2) := by decide +kernel
theorem dX8_drink_62 : decode cX8_drink 62 = .ok (.if_icmp .ge 41, 3) := by decide +kernel
theorem dX8_drink_65 : decode cX8_drink 65 = .ok (.aload_n 0, 1) := by decide +kernel
theorem dX8_drink_66 : decode cX8_drink 66 = .ok (.getfield 25, 3) := by decide +kernel
theorem dX8_drink_69 : decode cX8_drink 69 = .ok (.iload 4, 2) := by decide +kernel
theorem dX8_drink_71 : decode cX8_drink 71 = .ok (.iconst 1, 1) := by decide +kernel
theorem dX8_drink_72 : decode cX8_drink 72 = .ok (.isub, 1) := by decide +kernel
theorem dX8_drink_73 : decode cX8_drink 73 = .ok (.aload_n 0, 1) := by decide +kernel
theorem dX8_drink_74 : decode cX8_drink 74 = .ok (.getfield 25, 3) := by decide +kernel
theorem dX8_drink_77 : decode cX8_drink 77 = .ok (.iload 4, 2) := by decide +kernel
theorem dX8_drink_79 : decode cX8_drink 79 = .ok (.iaload, 1) := by decide +kernel
theorem dX8_drink_80 : decode cX8_drink 80 = .ok (.iastore, 1) := by decide +kernel
theorem dX8_drink_81 : decode cX8_drink 81 = .ok (.aload_n 0, 1) := by decide +kernel
theorem dX8_drink_82 : decode cX8_drink 82 = .ok (.getfield 28, 3) := by decide +kernel
theorem dX8_drink_85 : decode cX8_drink 85 = .ok (.iload 4, 2) := by decide +kernel
theorem dX8_drink_87 : decode cX8_drink 87 = .ok (.iconst 1, 1) := by decide +kernel
theorem dX8_drink_88 : decode cX8_drink 88 = .ok (.isub, 1) := by decide +kernel
theorem dX8_drink_89 : decode cX8_drink 89 = .ok (.aload_n 0, 1) := by decide +kernel
theorem dX8_drink_90 : decode cX8_drink 90 = .ok (.getfield 28, 3) := by decide +kernel
theorem dX8_drink_93 : decode cX8_drink 93 = .ok (.iload 4, 2) := by decide +kernel
theorem dX8_drink_95 : decode cX8_drink 95 = .ok (.iaload, 1) := by decide +kernel
theorem dX8_drink_96 : decode cX8_drink 96 = .ok (.iastore, 1) := by decide +kernel
theorem dX8_drink_97 : decode cX8_drink 97 = .ok (.iinc 4 1, 3) := by decide +kernel
theorem dX8_drink_100 : decode cX8_drink 100 = .ok (.goto (-42), 3) := by decide +kernel
theorem dX8_drink_103 : decode cX8_drink 103 = .ok (.aload_n 0, 1) := by decide +kernel
theorem dX8_drink_104 : decode cX8_drink 104 = .ok (.dup, 1) := by decide +kernel
theorem dX8_drink_105 : decode cX8_drink 105 = .ok (.getfield 221, 3) := by decide +kernel
theorem dX8_drink_108 : decode cX8_drink 108 = .ok (.iconst 1, 1) := by decide +kernel
theorem dX8_drink_109 : decode cX8_drink 109 = .ok (.isub, 1) := by decide +kernel
theorem dX8_drink_110 : decode cX8_drink 110 = .ok (.putfield 221, 3) := by decide +kernel
theorem dX8_drink_113 : decode cX8_drink 113 = .ok (.aload_n 0, 1) := by decide +kernel
theorem dX8_drink_114 : decode cX8_drink 114 = .ok (.getfield 25, 3) := by decide +kernel
theorem dX8_drink_117 : decode cX8_drink 117 = .ok (.aload_n 0, 1) := by decide +kernel
theorem dX8_drink_118 : decode cX8_drink 118 = .ok (.getfield 221, 3) := by decide +kernel
theorem dX8_drink_121 : decode cX8_drink 121 = .ok (.iload_n 1, 1) := by decide +kernel
theorem dX8_drink_122 : decode cX8_drink 122 = .ok (.iastore, 1) := by decide +kernel
theorem dX8_drink_123 : decode cX8_drink 123 = .ok (.aload_n 0, 1) := by decide +kernel
theorem dX8_drink_124 : decode cX8_drink 124 = .ok (.getfield 28, 3) := by decide +kernel
theorem dX8_drink_127 : decode cX8_drink 127 = .ok (.aload_n 0, 1) := by decide +kernel
theorem dX8_drink_128 : decode cX8_drink 128 = .ok (.getfield 221, 3) := by decide +kernel
theorem dX8_drink_131 : decode cX8_drink 131 = .ok (.iload_n 2, 1) := by decide +kernel
theorem dX8_drink_132 : decode cX8_drink 132 = .ok (.iastore, 1) := by decide +kernel
theorem dX8_drink_133 : decode cX8_drink 133 = .ok (.aload_n 0, 1) := by decide +kernel
theorem dX8_drink_134 : decode cX8_drink 134 = .ok (.dup, 1) := by decide +kernel
theorem dX8_drink_135 : decode cX8_drink 135 = .ok (.getfield 221, 3) := by decide +kernel
theorem dX8_drink_138 : decode cX8_drink 138 = .ok (.iconst 1, 1) := by decide +kernel
theorem dX8_drink_139 : decode cX8_drink 139 = .ok (.iadd, 1) := by decide +kernel
theorem dX8_drink_140 : decode cX8_drink 140 = .ok (.putfield 221, 3) := by decide +kernel
theorem dX8_drink_143 : decode cX8_drink 143 = .ok (.aload_n 0, 1) := by decide +kernel
theorem dX8_drink_144 : decode cX8_drink 144 = .ok (.getfield 19, 3) := by decide +kernel
theorem dX8_drink_147 : decode cX8_drink 147 = .ok (.bipush 72, 2) := by decide +kernel
theorem dX8_drink_149 : decode cX8_drink 149 = .ok (.iconst 4, 1) := by decide +kernel
theorem dX8_drink_150 : decode cX8_drink 150 = .ok (.iload_n 1, 1) := by decide +kernel
theorem dX8_drink_151 : decode cX8_drink 151 = .ok (.imul, 1) := by decide +kernel
theorem dX8_drink_152 : decode cX8_drink 152 = .ok (.iadd, 1) := by decide +kernel
theorem dX8_drink_153 : decode cX8_drink 153 = .ok (.iconst 2, 1) := by decide +kernel
theorem dX8_drink_154 : decode cX8_drink 154 = .ok (.iadd, 1) := by decide +kernel
theorem dX8_drink_155 : decode cX8_drink 155 = .ok (.iload_n 3, 1) := by decide +kernel
theorem dX8_drink_156 : decode cX8_drink 156 = .ok (.iload_n 2, 1) := by decide +kernel
theorem dX8_drink_157 : decode cX8_drink 157 = .ok (.iadd, 1) := by decide +kernel
theorem dX8_drink_158 : decode cX8_drink 158 = .ok (.iastore, 1) := by decide +kernel
theorem dX8_drink_159 : decode cX8_drink 159 = .ok (.iload_n 3, 1) := by decide +kernel
theorem dX8_drink_160 : decode cX8_drink 160 = .ok (.iload_n 2, 1) := by decide +kernel
theorem dX8_drink_161 : decode cX8_drink 161 = .ok (.iadd, 1) := by decide +kernel
theorem dX8_drink_162 : decode cX8_drink 162 = .ok (.ireturn, 1) := by decide +kernel
theorem dX8_undo_0 : decode cX8_undo 0 = .ok (.aload_n 0, 1) := by decide +kernel
theorem dX8_undo_1 : decode cX8_undo 1 = .ok (.iconst 0, 1) := by decide +kernel
theorem dX8_undo_2 : decode cX8_undo 2 = .ok (.putfield 68, 3) := by decide +kernel
theorem dX8_undo_5 : decode cX8_undo 5 = .ok (.aload_n 0, 1) := by decide +kernel
theorem dX8_undo_6 : decode cX8_undo 6 = .ok (.getfield 221, 3) := by decide +kernel
theorem dX8_undo_9 : decode cX8_undo 9 = .ok (.ifCond .ne 6, 3) := by decide +kernel
theorem dX8_undo_12 : decode cX8_undo 12 = .ok (.ldc 240, 2) := by decide +kernel
theorem dX8_undo_14 : decode cX8_undo 14 = .ok (.ireturn, 1) := by decide +kernel
theorem dX8_undo_15 : decode cX8_undo 15 = .ok (.aload_n 0, 1) := by decide +kernel
theorem dX8_undo_16 : decode cX8_undo 16 = .ok (.dup, 1) := by decide +kernel
theorem dX8_undo_17 : decode cX8_undo 17 = .ok (.getfield 221, 3) := by decide +kernel
theorem dX8_undo_20 : decode cX8_undo 20 = .ok (.iconst 1, 1) := by decide +kernel
theorem dX8_undo_21 : decode cX8_undo 21 = .ok (.isub, 1) := by decide +kernel
theorem dX8_undo_22 : decode cX8_undo 22 = .ok (.putfield 221, 3) := by decide +kernel
theorem dX8_undo_25 : decode cX8_undo 25 = .ok (.aload_n 0, 1) := by decide +kernel
theorem dX8_undo_26 : decode cX8_undo 26 = .ok (.getfield 19, 3) := by decide +kernel
theorem dX8_undo_29 : decode cX8_undo 29 = .ok (.bipush 72, 2) := by decide +kernel
theorem dX8_undo_31 : decode cX8_undo 31 = .ok (.iconst 4, 1) := by decide +kernel
theorem dX8_undo_32 : decode cX8_undo 32 = .ok (.aload_n 0, 1) := by decide +kernel
theorem dX8_undo_33 : decode cX8_undo 33 = .ok (.getfield 25, 3) := by decide +kernel
theorem dX8_undo_36 : decode cX8_undo 36 = .ok (.aload_n 0, 1) := by decide +kernel
theorem dX8_undo_37 : decode cX8_undo 37 = .ok (.getfield 221, 3) := by decide +kernel
theorem dX8_undo_40 : decode cX8_undo 40 = .ok (.iaload, 1) := by decide +kernel
theorem dX8_undo_41 : decode cX8_undo 41 = .ok (.imul, 1) := by decide +kernel
theorem dX8_undo_42 : decode cX8_undo 42 = .ok (.iadd, 1) := by decide +kernel
theorem dX8_undo_43 : decode cX8_undo 43 = .ok (.iconst 2, 1) := by decide +kernel
theorem dX8_undo_44 : decode cX8_undo 44 = .ok (.iadd, 1) := by decide +kernel
theorem dX8_undo_45 : decode cX8_undo 45 = .ok (.dup2, 1) := by decide +kernel
theorem dX8_undo_46 : decode cX8_undo 46 = .ok (.iaload, 1) := by decide +kernel
theorem dX8_undo_47 : decode cX8_undo 47 = .ok (.aload_n 0, 1) := by decide +kernel
theorem dX8_undo_48 : decode cX8_undo 48 = .ok (.getfield 28, 3) := by decide +kernel
theorem dX8_undo_51 : decode cX8_undo 51 = .ok (.aload_n 0, 1) := by decide +kernel
theorem dX8_undo_52 : decode cX8_undo 52 = .ok (.getfield 221, 3) := by decide +kernel
theorem dX8_undo_55 : decode cX8_undo 55 = .ok (.iaload, 1) := by decide +kernel
theorem dX8_undo_56 : decode cX8_undo 56 = .ok (.isub, 1) := by decide +kernel
theorem dX8_undo_57 : decode cX8_undo 57 = .ok (.iastore, 1) := by decide +kernel
theorem dX8_undo_58 : decode cX8_undo 58 = .ok (.aload_n 0, 1) := by decide +kernel
theorem dX8_undo_59 : decode cX8_undo 59 = .ok (.getfield 221, 3) := by decide +kernel
theorem dX8_undo_62 : decode cX8_undo 62 = .ok (.ireturn, 1) := by decide +kernel
theorem dX8_person_0 : decode cX8_person 0 = .ok (.aload_n 0, 1) := by decide +kernel
theorem dX8_person_1 : decode cX8_person 1 = .ok (.iconst 0, 1) := by decide +kernel
theorem dX8_person_2 : decode cX8_person 2 = .ok (.putfield 68, 3) := by decide +kernel
theorem dX8_person_5 : decode cX8_person 5 = .ok (.aload_n 0, 1) := by decide +kernel
theorem dX8_person_6 : decode cX8_person 6 = .ok (.iload_n 1, 1) := by decide +kernel
theorem dX8_person_7 : decode cX8_person 7 = .ok (.invokevirtual 232, 3) := by decide +kernel
theorem dX8_person_10 : decode cX8_person 10 = .ok (.ifCond .eq 15, 3) := by decide +kernel
theorem dX8_person_13 : decode cX8_person 13 = .ok (.iload_n 2, 1) := by decide +kernel
theorem dX8_person_14 : decode cX8_person 14 = .ok (.i2l, 1) := by decide +kernel
theorem dX8_person_15 : decode cX8_person 15 = .ok (.lconst 0, 1) := by decide +kernel
theorem dX8_person_16 : decode cX8_person 16 = .ok (.ldc2_w 241, 3) := by decide +kernel
theorem dX8_person_19 : decode cX8_person 19 = .ok (.invokestatic 78, 3) := by decide +kernel
theorem dX8_person_22 : decode cX8_person 22 = .ok (.ifCond .ne 6, 3) := by decide +kernel
theorem dX8_person_25 : decode cX8_person 25 = .ok (.ldc 88, 2) := by decide +kernel
theorem dX8_person_27 : decode cX8_person 27 = .ok (.ireturn, 1) := by decide +kernel
theorem dX8_person_28 : decode cX8_person 28 = .ok (.iload_n 2, 1) := by decide +kernel
theorem dX8_person_29 : decode cX8_person 29 = .ok (.ifCond .ne 12, 3) := by decide +kernel
theorem dX8_person_32 : decode cX8_person 32 = .ok (.aload_n 0, 1) := by decide +kernel
theorem dX8_person_33 : decode cX8_person 33 = .ok (.iload_n 1, 1) := by decide +kernel
theorem dX8_person_34 : decode cX8_person 34 = .ok (.iconst 1, 1) := by decide +kernel
theorem dX8_person_35 : decode cX8_person 35 = .ok (.invokevirtual 237, 3) := by decide +kernel
theorem dX8_person_38 : decode cX8_person 38 = .ok (.goto 36, 3) := by decide +kernel
theorem dX8_person_41 : decode cX8_person 41 = .ok (.iload_n 2, 1) := by decide +kernel
theorem dX8_person_42 : decode cX8_person 42 = .ok (.iconst 1, 1) := by decide +kernel
theorem dX8_person_43 : decode cX8_person 43 = .ok (.if_icmp .ne 12, 3) := by decide +kernel
theorem dX8_person_46 : decode cX8_person 46 = .ok (.aload_n 0, 1) := by decide +kernel
theorem dX8_person_47 : decode cX8_person 47 = .ok (.iload_n 1, 1) := by decide +kernel
theorem dX8_person_48 : decode cX8_person 48 = .ok (.iconst 2, 1) := by decide +kernel
theorem dX8_person_49 : decode cX8_person 49 = .ok (.invokevirtual 237, 3) := by decide +kernel
theorem dX8_person_52 : decode cX8_person 52 = .ok (.goto 22, 3) := by decide +kernel
theorem dX8_person_55 : decode cX8_person 55 = .ok (.iload_n 2, 1) := by decide +kernel
theorem dX8_person_56 : decode cX8_person 56 = .ok (.iconst 2, 1) := by decide +kernel
theorem dX8_person_57 : decode cX8_person 57 = .ok (.if_icmp .ne 11, 3) := by decide +kernel
theorem dX8_person_60 : decode cX8_person 60 = .ok (.aload_n 0, 1) := by decide +kernel
theorem dX8_person_61 : decode cX8_person 61 = .ok (.iload_n 1, 1) := by decide +kernel
theorem dX8_person_62 : decode cX8_person 62 = .ok (.invokevirtual 243, 3) := by decide +kernel
theorem dX8_person_65 : decode cX8_person 65 = .ok (.goto 9, 3) := by decide +kernel
theorem dX8_person_68 : decode cX8_person 68 = .ok (.aload_n 0, 1) := by decide +kernel
theorem dX8_person_69 : decode cX8_person 69 = .ok (.iload_n 1, 1) := by decide +kernel
theorem dX8_person_70 : decode cX8_person 70 = .ok (.iconst 3, 1) := by decide +kernel
theorem dX8_person_71 : decode cX8_person 71 = .ok (.invokevirtual 237, 3) := by decide +kernel
theorem dX8_person_74 : decode cX8_person 74 = .ok (.ireturn, 1) := by decide +kernel
theorem dX8_car_0 : decode cX8_car 0 = .ok (.aload_n 0, 1) := by decide +kernel
theorem dX8_car_1 : decode cX8_car 1 = .ok (.iconst 0, 1) := by decide +kernel
theorem dX8_car_2 : decode cX8_car 2 = .ok (.putfield 68, 3) := by decide +kernel
theorem dX8_car_5 : decode cX8_car 5 = .ok (.aload_n 0, 1) := by decide +kernel
theorem dX8_car_6 : decode cX8_car 6 = .ok (.iload_n 1, 1) := by decide +kernel
theorem dX8_car_7 : decode cX8_car 7 = .ok (.invokevirtual 246, 3) := by decide +kernel
theorem dX8_car_10 : decode cX8_car 10 = .ok (.ifCond .eq 24, 3) := by decide +kernel
theorem dX8_car_13 : decode cX8_car 13 = .ok (.iload_n 2, 1) := by decide +kernel
theorem dX8_car_14 : decode cX8_car 14 = .ok (.i2l, 1) := by decide +kernel
theorem dX8_car_15 : decode cX8_car 15 = .ok (.lconst 0, 1) := by decide +kernel
theorem dX8_car_16 : decode cX8_car 16 = .ok (.ldc2_w 86, 3) := by decide +kernel
theorem dX8_car_19 : decode cX8_car 19 = .ok (.invokestatic 78, 3) := by decide +kernel
theorem dX8_car_22 : decode cX8_car 22 = .ok (.ifCond .eq 12, 3) := by decide +kernel
theorem dX8_car_25 : decode cX8_car 25 = .ok (.aload_n 0, 1) := by decide +kernel
theorem dX8_car_26 : decode cX8_car 26 = .ok (.iload_n 1, 1) := by decide +kernel
theorem dX8_car_27 : decode cX8_car 27 = .ok (.iload_n 2, 1) := by decide +kernel
theorem dX8_car_28 : decode cX8_car 28 = .ok (.invokevirtual 229, 3) := by decide +kernel
theorem dX8_car_31 : decode cX8_car 31 = .ok (.goto 5, 3) := by decide +kernel
theorem dX8_car_34 : decode cX8_car 34 = .ok (.ldc 88, 2) := by decide +kernel
theorem dX8_car_36 : decode cX8_car 36 = .ok (.ireturn, 1) := by decide +kernel
theorem dX8_farOf_0 : decode cX8_farOf 0 = .ok (.aload_n 0, 1) := by decide +kernel
theorem dX8_farOf_1 : decode cX8_farOf 1 = .ok (.getfield 19, 3) := by decide +kernel
theorem dX8_farOf_4 : decode cX8_farOf 4 = .ok (.bipush 8, 2) := by decide +kernel
theorem dX8_farOf_6 : decode cX8_farOf 6 = .ok (.bipush 8, 2) := by decide +kernel
theorem dX8_farOf_8 : decode cX8_farOf 8 = .ok (.iload_n 1, 1) := by decide +kernel
theorem dX8_farOf_9 : decode cX8_farOf 9 = .ok (.imul, 1) := by decide +kernel
theorem dX8_farOf_10 : decode cX8_farOf 10 = .ok (.iadd, 1) := by decide +kernel
theorem dX8_farOf_11 : decode cX8_farOf 11 = .ok (.iload_n 2, 1) := by decide +kernel
theorem dX8_farOf_12 : decode cX8_farOf 12 = .ok (.iadd, 1) := by decide +kernel
theorem dX8_farOf_13 : decode cX8_farOf 13 = .ok (.iaload, 1) := by decide +kernel
theorem dX8_farOf_14 : decode cX8_farOf 14 = .ok (.ireturn, 1) := by decide +kernel
theorem dX8_far_0 : decode cX8_far 0 = .ok (.aload_n 0, 1) := by decide +kernel
theorem dX8_far_1 : decode cX8_far 1 = .ok (.iconst 0, 1) := by decide +kernel
theorem dX8_far_2 : decode cX8_far 2 = .ok (.putfield 68, 3) := by decide +kernel
theorem dX8_far_5 : decode cX8_far 5 = .ok (.aload_n 0, 1) := by decide +kernel
theorem dX8_far_6 : decode cX8_far 6 = .ok (.getfield 217, 3) := by decide +kernel
theorem dX8_far_9 : decode cX8_far 9 = .ok (.ifCond .ne 6, 3) := by decide +kernel
theorem dX8_far_12 : decode cX8_far 12 = .ok (.ldc 240, 2) := by decide +kernel
theorem dX8_far_14 : decode cX8_far 14 = .ok (.ireturn, 1) := by decide +kernel
theorem dX8_far_15 : decode cX8_far 15 = .ok (.iload_n 1, 1) := by decide +kernel
theorem dX8_far_16 : decode cX8_far 16 = .ok (.i2l, 1) := by decide +kernel
theorem dX8_far_17 : decode cX8_far 17 = .ok (.lconst 0, 1) := by decide +kernel
theorem dX8_far_18 : decode cX8_far 18 = .ok (.ldc2_w 76, 3) := by decide +kernel
theorem dX8_far_21 : decode cX8_far 21 = .ok (.invokestatic 78, 3) := by decide +kernel
theorem dX8_far_24 : decode cX8_far 24 = .ok (.ifCond .eq 15, 3) := by decide +kernel
theorem dX8_far_27 : decode cX8_far 27 = .ok (.iload_n 2, 1) := by decide +kernel
theorem dX8_far_28 : decode cX8_far 28 = .ok (.i2l, 1) := by decide +kernel
theorem dX8_far_29 : decode cX8_far 29 = .ok (.lconst 0, 1) := by decide +kernel
theorem dX8_far_30 : decode cX8_far 30 = .ok (.ldc2_w 76, 3) := by decide +kernel
theorem dX8_far_33 : decode cX8_far 33 = .ok (.invokestatic 78, 3) := by decide +kernel
theorem dX8_far_36 : decode cX8_far 36 = .ok (.ifCond .ne 6, 3) := by decide +kernel
theorem dX8_far_39 : decode cX8_far 39 = .ok (.ldc 88, 2) := by decide +kernel
theorem dX8_far_41 : decode cX8_far 41 = .ok (.ireturn, 1) := by decide +kernel
theorem dX8_far_42 : decode cX8_far 42 = .ok (.aload_n 0, 1) := by decide +kernel
theorem dX8_far_43 : decode cX8_far 43 = .ok (.iload_n 1, 1) := by decide +kernel
theorem dX8_far_44 : decode cX8_far 44 = .ok (.iload_n 2, 1) := by decide +kernel
theorem dX8_far_45 : decode cX8_far 45 = .ok (.invokevirtual 249, 3) := by decide +kernel
theorem dX8_far_48 : decode cX8_far 48 = .ok (.sipush 10000, 3) := by decide +kernel
theorem dX8_far_51 : decode cX8_far 51 = .ok (.if_icmp .ge 12, 3) := by decide +kernel
theorem dX8_far_54 : decode cX8_far 54 = .ok (.aload_n 0, 1) := by decide +kernel
theorem dX8_far_55 : decode cX8_far 55 = .ok (.iload_n 1, 1) := by decide +kernel
theorem dX8_far_56 : decode cX8_far 56 = .ok (.iload_n 2, 1) := by decide +kernel
theorem dX8_far_57 : decode cX8_far 57 = .ok (.invokevirtual 249, 3) := by decide +kernel
theorem dX8_far_60 : decode cX8_far 60 = .ok (.goto 5, 3) := by decide +kernel
theorem dX8_far_63 : decode cX8_far 63 = .ok (.ldc 104, 2) := by decide +kernel
theorem dX8_far_65 : decode cX8_far 65 = .ok (.ireturn, 1) := by decide +kernel
theorem dX8_drunk_0 : decode cX8_drunk 0 = .ok (.bipush 10, 2) := by decide +kernel
theorem dX8_drunk_2 : decode cX8_drunk 2 = .ok (.iload_n 1, 1) := by decide +kernel
theorem dX8_drunk_3 : decode cX8_drunk 3 = .ok (.imul, 1) := by decide +kernel
theorem dX8_drunk_4 : decode cX8_drunk 4 = .ok (.aload_n 0, 1) := by decide +kernel
theorem dX8_drunk_5 : decode cX8_drunk 5 = .ok (.getfield 19, 3) := by decide +kernel
theorem dX8_drunk_8 : decode cX8_drunk 8 = .ok (.iconst 1, 1) := by decide +kernel
theorem dX8_drunk_9 : decode cX8_drunk 9 = .ok (.iaload, 1) := by decide +kernel
theorem dX8_drunk_10 : decode cX8_drunk 10 = .ok (.iload_n 2, 1) := by decide +kernel
theorem dX8_drunk_11 : decode cX8_drunk 11 = .ok (.bipush 60, 2) := by decide +kernel
theorem dX8_drunk_13 : decode cX8_drunk 13 = .ok (.idiv, 1) := by decide +kernel
theorem dX8_drunk_14 : decode cX8_drunk 14 = .ok (.imul, 1) := by decide +kernel
theorem dX8_drunk_15 : decode cX8_drunk 15 = .ok (.isub, 1) := by decide +kernel
theorem dX8_drunk_16 : decode cX8_drunk 16 = .ok (.istore_n 3, 1) := by decide +kernel
theorem dX8_drunk_17 : decode cX8_drunk 17 = .ok (.iload_n 3, 1) := by decide +kernel
theorem dX8_drunk_18 : decode cX8_drunk 18 = .ok (.ifCond .ge 7, 3) := by decide +kernel
theorem dX8_drunk_21 : decode cX8_drunk 21 = .ok (.iconst 0, 1) := by decide +kernel
theorem dX8_drunk_22 : decode cX8_drunk 22 = .ok (.goto 4, 3) := by decide +kernel
theorem dX8_drunk_25 : decode cX8_drunk 25 = .ok (.iload_n 3, 1) := by decide +kernel
theorem dX8_drunk_26 : decode cX8_drunk 26 = .ok (.ireturn, 1) := by decide +kernel
theorem dX8_mayDrive_0 : decode cX8_mayDrive 0 = .ok (.aload_n 0, 1) := by decide +kernel
theorem dX8_mayDrive_1 : decode cX8_mayDrive 1 = .ok (.iload_n 1, 1) := by decide +kernel
theorem dX8_mayDrive_2 : decode cX8_mayDrive 2 = .ok (.iconst 0, 1) := by decide +kernel
theorem dX8_mayDrive_3 : decode cX8_mayDrive 3 = .ok (.invokevirtual 237, 3) := by decide +kernel
theorem dX8_mayDrive_6 : decode cX8_mayDrive 6 = .ok (.istore 4, 2) := by decide +kernel
theorem dX8_mayDrive_8 : decode cX8_mayDrive 8 = .ok (.iload 4, 2) := by decide +kernel
theorem dX8_mayDrive_10 : decode cX8_mayDrive 10 = .ok (.iconst 4, 1) := by decide +kernel
theorem dX8_mayDrive_11 : decode cX8_mayDrive 11 = .ok (.if_icmp .ge 32, 3) := by decide +kernel
theorem dX8_mayDrive_14 : decode cX8_mayDrive 14 = .ok (.aload_n 0, 1) := by decide +kernel
theorem dX8_mayDrive_15 : decode cX8_mayDrive 15 = .ok (.iload_n 2, 1) := by decide +kernel
theorem dX8_mayDrive_16 : decode cX8_mayDrive 16 = .ok (.iload_n 3, 1) := by decide +kernel
theorem dX8_mayDrive_17 : decode cX8_mayDrive 17 = .ok (.invokevirtual 252, 3) := by decide +kernel
theorem dX8_mayDrive_20 : decode cX8_mayDrive 20 = .ok (.aload_n 0, 1) := by decide +kernel
theorem dX8_mayDrive_21 : decode cX8_mayDrive 21 = .ok (.getfield 19, 3) := by decide +kernel
theorem dX8_mayDrive_24 : decode cX8_mayDrive 24 = .ok (.iconst 0, 1) := by decide +kernel
theorem dX8_mayDrive_25 : decode cX8_mayDrive 25 = .ok (.iaload, 1) := by decide +kernel
theorem dX8_mayDrive_26 : decode cX8_mayDrive 26 = .ok (.if_icmp .gt 17, 3) := by decide +kernel
theorem dX8_mayDrive_29 : decode cX8_mayDrive 29 = .ok (.iload 4, 2) := by decide +kernel
theorem dX8_mayDrive_31 : decode cX8_mayDrive 31 = .ok (.iconst 2, 1) := by decide +kernel
theorem dX8_mayDrive_32 : decode cX8_mayDrive 32 = .ok (.if_icmp .ne 7, 3) := by decide +kernel
theorem dX8_mayDrive_35 : decode cX8_mayDrive 35 = .ok (.iload_n 2, 1) := by decide +kernel
theorem dX8_mayDrive_36 : decode cX8_mayDrive 36 = .ok (.ifCond .ne 7, 3) := by decide +kernel
theorem dX8_mayDrive_39 : decode cX8_mayDrive 39 = .ok (.iconst 1, 1) := by decide +kernel
theorem dX8_mayDrive_40 : decode cX8_mayDrive 40 = .ok (.goto 4, 3) := by decide +kernel
theorem dX8_mayDrive_43 : decode cX8_mayDrive 43 = .ok (.iconst 0, 1) := by decide +kernel
theorem dX8_mayDrive_44 : decode cX8_mayDrive 44 = .ok (.ireturn, 1) := by decide +kernel
theorem dX8_may_0 : decode cX8_may 0 = .ok (.aload_n 0, 1) := by decide +kernel
theorem dX8_may_1 : decode cX8_may 1 = .ok (.iconst 0, 1) := by decide +kernel
theorem dX8_may_2 : decode cX8_may 2 = .ok (.putfield 68, 3) := by decide +kernel
theorem dX8_may_5 : decode cX8_may 5 = .ok (.aload_n 0, 1) := by decide +kernel
theorem dX8_may_6 : decode cX8_may 6 = .ok (.iload_n 1, 1) := by decide +kernel
theorem dX8_may_7 : decode cX8_may 7 = .ok (.invokevirtual 232, 3) := by decide +kernel
theorem dX8_may_10 : decode cX8_may 10 = .ok (.ifCond .eq 20, 3) := by decide +kernel
theorem dX8_may_13 : decode cX8_may 13 = .ok (.iload_n 2, 1) := by decide +kernel
theorem dX8_may_14 : decode cX8_may 14 = .ok (.invokestatic 255, 3) := by decide +kernel
theorem dX8_may_17 : decode cX8_may 17 = .ok (.ifCond .eq 13, 3) := by decide +kernel
theorem dX8_may_20 : decode cX8_may 20 = .ok (.iload_n 3, 1) := by decide +kernel
theorem dX8_may_21 : decode cX8_may 21 = .ok (.i2l, 1) := by decide +kernel
theorem dX8_may_22 : decode cX8_may 22 = .ok (.lconst 0, 1) := by decide +kernel
theorem dX8_may_23 : decode cX8_may 23 = .ok (.lconst 1, 1) := by decide +kernel
theorem dX8_may_24 : decode cX8_may 24 = .ok (.invokestatic 78, 3) := by decide +kernel
theorem dX8_may_27 : decode cX8_may 27 = .ok (.ifCond .ne 6, 3) := by decide +kernel
theorem dX8_may_30 : decode cX8_may 30 = .ok (.ldc 88, 2) := by decide +kernel
theorem dX8_may_32 : decode cX8_may 32 = .ok (.ireturn, 1) := by decide +kernel
theorem dX8_may_33 : decode cX8_may 33 = .ok (.iload_n 3, 1) := by decide +kernel
theorem dX8_may_34 : decode cX8_may 34 = .ok (.ifCond .ne 17, 3) := by decide +kernel
theorem dX8_may_37 : decode cX8_may 37 = .ok (.aload_n 0, 1) := by decide +kernel
theorem dX8_may_38 : decode cX8_may 38 = .ok (.aload_n 0, 1) := by decide +kernel
theorem dX8_may_39 : decode cX8_may 39 = .ok (.iload_n 1, 1) := by decide +kernel
theorem dX8_may_40 : decode cX8_may 40 = .ok (.iconst 2, 1) := by decide +kernel
theorem dX8_may_41 : decode cX8_may 41 = .ok (.invokevirtual 237, 3) := by decide +kernel
theorem dX8_may_44 : decode cX8_may 44 = .ok (.iload_n 2, 1) := by decide +kernel
theorem dX8_may_45 : decode cX8_may 45 = .ok (.invokevirtual 252, 3) := by decide +kernel
theorem dX8_may_48 : decode cX8_may 48 = .ok (.goto 23, 3) := by decide +kernel
theorem dX8_may_51 : decode cX8_may 51 = .ok (.aload_n 0, 1) := by decide +kernel
theorem dX8_may_52 : decode cX8_may 52 = .ok (.iload_n 1, 1) := by decide +kernel
theorem dX8_may_53 : decode cX8_may 53 = .ok (.aload_n 0, 1) := by decide +kernel
theorem dX8_may_54 : decode cX8_may 54 = .ok (.iload_n 1, 1) := by decide +kernel
theorem dX8_may_55 : decode cX8_may 55 = .ok (.iconst 2, 1) := by decide +kernel
theorem dX8_may_56 : decode cX8_may 56 = .ok (.invokevirtual 237, 3) := by decide +kernel
theorem dX8_may_59 : decode cX8_may 59 = .ok (.iload_n 2, 1) := by decide +kernel
theorem dX8_may_60 : decode cX8_may 60 = .ok (.invokevirtual 258, 3) := by decide +kernel
theorem dX8_may_63 : decode cX8_may 63 = .ok (.ifCond .eq 7, 3) := by decide +kernel
theorem dX8_may_66 : decode cX8_may 66 = .ok (.iconst 1, 1) := by decide +kernel
theorem dX8_may_67 : decode cX8_may 67 = .ok (.goto 4, 3) := by decide +kernel
theorem dX8_may_70 : decode cX8_may 70 = .ok (.iconst 0, 1) := by decide +kernel
theorem dX8_may_71 : decode cX8_may 71 = .ok (.ireturn, 1) := by decide +kernel
theorem dX8_soon_0 : decode cX8_soon 0 = .ok (.aload_n 0, 1) := by decide +kernel
theorem dX8_soon_1 : decode cX8_soon 1 = .ok (.iconst 0, 1) := by decide +kernel
theorem dX8_soon_2 : decode cX8_soon 2 = .ok (.putfield 68, 3) := by decide +kernel
theorem dX8_soon_5 : decode cX8_soon 5 = .ok (.aload_n 0, 1) := by decide +kernel
theorem dX8_soon_6 : decode cX8_soon 6 = .ok (.iload_n 1, 1) := by decide +kernel
theorem dX8_soon_7 : decode cX8_soon 7 = .ok (.invokevirtual 232, 3) := by decide +kernel
theorem dX8_soon_10 : decode cX8_soon 10 = .ok (.ifCond .ne 6, 3) := by decide +kernel
theorem dX8_soon_13 : decode cX8_soon 13 = .ok (.ldc 88, 2) := by decide +kernel
theorem dX8_soon_15 : decode cX8_soon 15 = .ok (.ireturn, 1) := by decide +kernel
theorem dX8_soon_16 : decode cX8_soon 16 = .ok (.iconst 0, 1) := by decide +kernel
theorem dX8_soon_17 : decode cX8_soon 17 = .ok (.istore_n 2, 1) := by decide +kernel
theorem dX8_soon_18 : decode cX8_soon 18 = .ok (.iload_n 2, 1) := by decide +kernel
theorem dX8_soon_19 : decode cX8_soon 19 = .ok (.sipush 600, 3) := by decide +kernel
theorem dX8_soon_22 : decode cX8_soon 22 = .ok (.if_icmp .gt 26, 3) := by decide +kernel
theorem dX8_soon_25 : decode cX8_soon 25 = .ok (.aload_n 0, 1) := by decide +kernel
theorem dX8_soon_26 : decode cX8_soon 26 = .ok (.iload_n 1, 1) := by decide +kernel
theorem dX8_soon_27 : decode cX8_soon 27 = .ok (.aload_n 0, 1) := by decide +kernel
theorem dX8_soon_28 : decode cX8_soon 28 = .ok (.iload_n 1, 1) := by decide +kernel
theorem dX8_soon_29 : decode cX8_soon 29 = .ok (.iconst 2, 1) := by decide +kernel
theorem dX8_soon_30 : decode cX8_soon 30 = .ok (.invokevirtual 237, 3) := by decide +kernel
theorem dX8_soon_33 : decode cX8_soon 33 = .ok (.iload_n 2, 1) := by decide +kernel
theorem dX8_soon_34 : decode cX8_soon 34 = .ok (.invokevirtual 258, 3) := by decide +kernel
theorem dX8_soon_37 : decode cX8_soon 37 = .ok (.ifCond .eq 5, 3) := by decide +kernel
theorem dX8_soon_40 : decode cX8_soon 40 = .ok (.iload_n 2, 1) := by decide +kernel
theorem dX8_soon_41 : decode cX8_soon 41 = .ok (.ireturn, 1) := by decide +kernel
theorem dX8_soon_42 : decode cX8_soon 42 = .ok (.iinc 2 1, 3) := by decide +kernel
theorem dX8_soon_45 : decode cX8_soon 45 = .ok (.goto (-27), 3) := by decide +kernel
theorem dX8_soon_48 : decode cX8_soon 48 = .ok (.ldc 104, 2) := by decide +kernel
theorem dX8_soon_50 : decode cX8_soon 50 = .ok (.ireturn, 1) := by decide +kernel
theorem dX8_divisor_0 : decode cX8_divisor 0 = .ok (.iload_n 0, 1) := by decide +kernel
theorem dX8_divisor_1 : decode cX8_divisor 1 = .ok (.istore_n 2, 1) := by decide +kernel
theorem dX8_divisor_2 : decode cX8_divisor 2 = .ok (.iload_n 1, 1) := by decide +kernel
theorem dX8_divisor_3 : decode cX8_divisor 3 = .ok (.istore_n 3, 1) := by decide +kernel
theorem dX8_divisor_4 : decode cX8_divisor 4 = .ok (.iload_n 3, 1) := by decide +kernel
theorem dX8_divisor_5 : decode cX8_divisor 5 = .ok (.ifCond .eq 16, 3) := by decide +kernel
theorem dX8_divisor_8 : decode cX8_divisor 8 = .ok (.iload_n 2, 1) := by decide +kernel
theorem dX8_divisor_9 : decode cX8_divisor 9 = .ok (.iload_n 3, 1) := by decide +kernel
theorem dX8_divisor_10 : decode cX8_divisor 10 = .ok (.irem, 1) := by decide +kernel
theorem dX8_divisor_11 : decode cX8_divisor 11 = .ok (.istore 4, 2) := by decide +kernel
theorem dX8_divisor_13 : decode cX8_divisor 13 = .ok (.iload_n 3, 1) := by decide +kernel
theorem dX8_divisor_14 : decode cX8_divisor 14 = .ok (.istore_n 2, 1) := by decide +kernel
theorem dX8_divisor_15 : decode cX8_divisor 15 = .ok (.iload 4, 2) := by decide +kernel
theorem dX8_divisor_17 : decode cX8_divisor 17 = .ok (.istore_n 3, 1) := by decide +kernel
theorem dX8_divisor_18 : decode cX8_divisor 18 = .ok (.goto (-14), 3) := by decide +kernel
theorem dX8_divisor_21 : decode cX8_divisor 21 = .ok (.iload_n 2, 1) := by decide +kernel
theorem dX8_divisor_22 : decode cX8_divisor 22 = .ok (.ireturn, 1) := by decide +kernel
theorem dX8_odds_0 : decode cX8_odds 0 = .ok (.aload_n 0, 1) := by decide +kernel
theorem dX8_odds_1 : decode cX8_odds 1 = .ok (.iconst 0, 1) := by decide +kernel
theorem dX8_odds_2 : decode cX8_odds 2 = .ok (.putfield 68, 3) := by decide +kernel
theorem dX8_odds_5 : decode cX8_odds 5 = .ok (.aload_n 0, 1) := by decide +kernel
theorem dX8_odds_6 : decode cX8_odds 6 = .ok (.iload_n 1, 1) := by decide +kernel
theorem dX8_odds_7 : decode cX8_odds 7 = .ok (.invokevirtual 232, 3) := by decide +kernel
theorem dX8_odds_10 : decode cX8_odds 10 = .ok (.ifCond .eq 33, 3) := by decide +kernel
theorem dX8_odds_13 : decode cX8_odds 13 = .ok (.iload_n 2, 1) := by decide +kernel
theorem dX8_odds_14 : decode cX8_odds 14 = .ok (.invokestatic 255, 3) := by decide +kernel
theorem dX8_odds_17 : decode cX8_odds 17 = .ok (.ifCond .eq 26, 3) := by decide +kernel
theorem dX8_odds_20 : decode cX8_odds 20 = .ok (.iload_n 3, 1) := by decide +kernel
theorem dX8_odds_21 : decode cX8_odds 21 = .ok (.i2l, 1) := by decide +kernel
theorem dX8_odds_22 : decode cX8_odds 22 = .ok (.lconst 0, 1) := by decide +kernel
theorem dX8_odds_23 : decode cX8_odds 23 = .ok (.ldc2_w 235, 3) := by decide +kernel
theorem dX8_odds_26 : decode cX8_odds 26 = .ok (.invokestatic 78, 3) := by decide +kernel
theorem dX8_odds_29 : decode cX8_odds 29 = .ok (.ifCond .eq 14, 3) := by decide +kernel
theorem dX8_odds_32 : decode cX8_odds 32 = .ok (.iload 4, 2) := by decide +kernel
theorem dX8_odds_34 : decode cX8_odds 34 = .ok (.i2l, 1) := by decide +kernel
theorem dX8_odds_35 : decode cX8_odds 35 = .ok (.lconst 0, 1) := by decide +kernel
theorem dX8_odds_36 : decode cX8_odds 36 = .ok (.lconst 1, 1) := by decide +kernel
theorem dX8_odds_37 : decode cX8_odds 37 = .ok (.invokestatic 78, 3) := by decide +kernel
theorem dX8_odds_40 : decode cX8_odds 40 = .ok (.ifCond .ne 6, 3) := by decide +kernel
theorem dX8_odds_43 : decode cX8_odds 43 = .ok (.ldc 88, 2) := by decide +kernel
theorem dX8_odds_45 : decode cX8_odds 45 = .ok (.ireturn, 1) := by decide +kernel
theorem dX8_odds_46 : decode cX8_odds 46 = .ok (.iconst 0, 1) := by decide +kernel
theorem dX8_odds_47 : decode cX8_odds 47 = .ok (.istore 5, 2) := by decide +kernel
theorem dX8_odds_49 : decode cX8_odds 49 = .ok (.iconst 0, 1) := by decide +kernel
theorem dX8_odds_50 : decode cX8_odds 50 = .ok (.istore 6, 2) := by decide +kernel
theorem dX8_odds_52 : decode cX8_odds 52 = .ok (.iload 6, 2) := by decide +kernel
theorem dX8_odds_54 : decode cX8_odds 54 = .ok (.iload_n 3, 1) := by decide +kernel
theorem dX8_odds_55 : decode cX8_odds 55 = .ok (.if_icmp .gt 37, 3) := by decide +kernel
theorem dX8_odds_58 : decode cX8_odds 58 = .ok (.iload 5, 2) := by decide +kernel
theorem dX8_odds_60 : decode cX8_odds 60 = .ok (.aload_n 0, 1) := by decide +kernel
theorem dX8_odds_61 : decode cX8_odds 61 = .ok (.iload_n 1, 1) := by decide +kernel
theorem dX8_odds_62 : decode cX8_odds 62 = .ok (.aload_n 0, 1) := by decide +kernel
theorem dX8_odds_63 : decode cX8_odds 63 = .ok (.iload_n 1, 1) := by decide +kernel
theorem dX8_odds_64 : decode cX8_odds 64 = .ok (.iconst 2, 1) := by decide +kernel
theorem dX8_odds_65 : decode cX8_odds 65 = .ok (.invokevirtual 237, 3) := by decide +kernel
theorem dX8_odds_68 : decode cX8_odds 68 = .ok (.iload 6, 2) := by decide +kernel
theorem dX8_odds_70 : decode cX8_odds 70 = .ok (.iadd, 1) := by decide +kernel
theorem dX8_odds_71 : decode cX8_odds 71 = .ok (.iload_n 2, 1) := by decide +kernel
theorem dX8_odds_72 : decode cX8_odds 72 = .ok (.invokevirtual 258, 3) := by decide +kernel
theorem dX8_odds_75 : decode cX8_odds 75 = .ok (.ifCond .eq 7, 3) := by decide +kernel
theorem dX8_odds_78 : decode cX8_odds 78 = .ok (.iconst 1, 1) := by decide +kernel
theorem dX8_odds_79 : decode cX8_odds 79 = .ok (.goto 4, 3) := by decide +kernel
theorem dX8_odds_82 : decode cX8_odds 82 = .ok (.iconst 0, 1) := by decide +kernel
theorem dX8_odds_83 : decode cX8_odds 83 = .ok (.iadd, 1) := by decide +kernel
theorem dX8_odds_84 : decode cX8_odds 84 = .ok (.istore 5, 2) := by decide +kernel
theorem dX8_odds_86 : decode cX8_odds 86 = .ok (.iinc 6 1, 3) := by decide +kernel
theorem dX8_odds_89 : decode cX8_odds 89 = .ok (.goto (-37), 3) := by decide +kernel
theorem dX8_odds_92 : decode cX8_odds 92 = .ok (.iload 4, 2) := by decide +kernel
theorem dX8_odds_94 : decode cX8_odds 94 = .ok (.ifCond .ne 8, 3) := by decide +kernel
theorem dX8_odds_97 : decode cX8_odds 97 = .ok (.iload 5, 2) := by decide +kernel
theorem dX8_odds_99 : decode cX8_odds 99 = .ok (.goto 6, 3) := by decide +kernel
theorem dX8_odds_102 : decode cX8_odds 102 = .ok (.iload_n 3, 1) := by decide +kernel
theorem dX8_odds_103 : decode cX8_odds 103 = .ok (.iconst 1, 1) := by decide +kernel
theorem dX8_odds_104 : decode cX8_odds 104 = .ok (.iadd, 1) := by decide +kernel
theorem dX8_odds_105 : decode cX8_odds 105 = .ok (.iload 5, 2) := by decide +kernel
theorem dX8_odds_107 : decode cX8_odds 107 = .ok (.iload_n 3, 1) := by decide +kernel
theorem dX8_odds_108 : decode cX8_odds 108 = .ok (.iconst 1, 1) := by decide +kernel
theorem dX8_odds_109 : decode cX8_odds 109 = .ok (.iadd, 1) := by decide +kernel
theorem dX8_odds_110 : decode cX8_odds 110 = .ok (.invokestatic 262, 3) := by decide +kernel
theorem dX8_odds_113 : decode cX8_odds 113 = .ok (.idiv, 1) := by decide +kernel
theorem dX8_odds_114 : decode cX8_odds 114 = .ok (.ireturn, 1) := by decide +kernel
theorem dX8_isOnHill_0 : decode cX8_isOnHill 0 = .ok (.aload_n 0, 1) := by decide +kernel
theorem dX8_isOnHill_1 : decode cX8_isOnHill 1 = .ok (.getfield 19, 3) := by decide +kernel
theorem dX8_isOnHill_4 : decode cX8_isOnHill 4 = .ok (.bipush 7, 2) := by decide +kernel
theorem dX8_isOnHill_6 : decode cX8_isOnHill 6 = .ok (.iaload, 1) := by decide +kernel
theorem dX8_isOnHill_7 : decode cX8_isOnHill 7 = .ok (.aload_n 0, 1) := by decide +kernel
theorem dX8_isOnHill_8 : decode cX8_isOnHill 8 = .ok (.iload_n 1, 1) := by decide +kernel
theorem dX8_isOnHill_9 : decode cX8_isOnHill 9 = .ok (.iconst 1, 1) := by decide +kernel
theorem dX8_isOnHill_10 : decode cX8_isOnHill 10 = .ok (.invokevirtual 237, 3) := by decide +kernel
theorem dX8_isOnHill_13 : decode cX8_isOnHill 13 = .ok (.ishr, 1) := by decide +kernel
theorem dX8_isOnHill_14 : decode cX8_isOnHill 14 = .ok (.iconst 1, 1) := by decide +kernel
theorem dX8_isOnHill_15 : decode cX8_isOnHill 15 = .ok (.iand, 1) := by decide +kernel
theorem dX8_isOnHill_16 : decode cX8_isOnHill 16 = .ok (.iconst 1, 1) := by decide +kernel
theorem dX8_isOnHill_17 : decode cX8_isOnHill 17 = .ok (.if_icmp .ne 7, 3) := by decide +kernel
theorem dX8_isOnHill_20 : decode cX8_isOnHill 20 = .ok (.iconst 1, 1) := by decide +kernel
theorem dX8_isOnHill_21 : decode cX8_isOnHill 21 = .ok (.goto 4, 3) := by decide +kernel
theorem dX8_isOnHill_24 : decode cX8_isOnHill 24 = .ok (.iconst 0, 1) := by decide +kernel
theorem dX8_isOnHill_25 : decode cX8_isOnHill 25 = .ok (.ireturn, 1) := by decide +kernel
theorem dX8_doesGo_0 : decode cX8_doesGo 0 = .ok (.aload_n 0, 1) := by decide +kernel
theorem dX8_doesGo_1 : decode cX8_doesGo 1 = .ok (.iload_n 1, 1) := by decide +kernel
theorem dX8_doesGo_2 : decode cX8_doesGo 2 = .ok (.iconst 0, 1) := by decide +kernel
theorem dX8_doesGo_3 : decode cX8_doesGo 3 = .ok (.invokevirtual 229, 3) := by decide +kernel
theorem dX8_doesGo_6 : decode cX8_doesGo 6 = .ok (.istore_n 3, 1) := by decide +kernel
theorem dX8_doesGo_7 : decode cX8_doesGo 7 = .ok (.aload_n 0, 1) := by decide +kernel
theorem dX8_doesGo_8 : decode cX8_doesGo 8 = .ok (.iload_n 3, 1) := by decide +kernel
theorem dX8_doesGo_9 : decode cX8_doesGo 9 = .ok (.aload_n 0, 1) := by decide +kernel
theorem dX8_doesGo_10 : decode cX8_doesGo 10 = .ok (.iload_n 3, 1) := by decide +kernel
theorem dX8_doesGo_11 : decode cX8_doesGo 11 = .ok (.iconst 2, 1) := by decide +kernel
theorem dX8_doesGo_12 : decode cX8_doesGo 12 = .ok (.invokevirtual 237, 3) := by decide +kernel
theorem dX8_doesGo_15 : decode cX8_doesGo 15 = .ok (.iload_n 2, 1) := by decide +kernel
theorem dX8_doesGo_16 : decode cX8_doesGo 16 = .ok (.invokevirtual 258, 3) := by decide +kernel
theorem dX8_doesGo_19 : decode cX8_doesGo 19 = .ok (.ifCond .eq 42, 3) := by decide +kernel
theorem dX8_doesGo_22 : decode cX8_doesGo 22 = .ok (.aload_n 0, 1) := by decide +kernel
theorem dX8_doesGo_23 : decode cX8_doesGo 23 = .ok (.iconst 0, 1) := by decide +kernel
theorem dX8_doesGo_24 : decode cX8_doesGo 24 = .ok (.aload_n 0, 1) := by decide +kernel
theorem dX8_doesGo_25 : decode cX8_doesGo 25 = .ok (.iload_n 3, 1) := by decide +kernel
theorem dX8_doesGo_26 : decode cX8_doesGo 26 = .ok (.iconst 1, 1) := by decide +kernel
theorem dX8_doesGo_27 : decode cX8_doesGo 27 = .ok (.invokevirtual 237, 3) := by decide +kernel
theorem dX8_doesGo_30 : decode cX8_doesGo 30 = .ok (.invokevirtual 249, 3) := by decide +kernel
theorem dX8_doesGo_33 : decode cX8_doesGo 33 = .ok (.sipush 10000, 3) := by decide +kernel
theorem dX8_doesGo_36 : decode cX8_doesGo 36 = .ok (.if_icmp .ge 25, 3) := by decide +kernel
theorem dX8_doesGo_39 : decode cX8_doesGo 39 = .ok (.aload_n 0, 1) := by decide +kernel
theorem dX8_doesGo_40 : decode cX8_doesGo 40 = .ok (.iload_n 3, 1) := by decide +kernel
theorem dX8_doesGo_41 : decode cX8_doesGo 41 = .ok (.invokevirtual 265, 3) := by decide +kernel
theorem dX8_doesGo_44 : decode cX8_doesGo 44 = .ok (.ifCond .eq 13, 3) := by decide +kernel
theorem dX8_doesGo_47 : decode cX8_doesGo 47 = .ok (.aload_n 0, 1) := by decide +kernel
theorem dX8_doesGo_48 : decode cX8_doesGo 48 = .ok (.iload_n 1, 1) := by decide +kernel
theorem dX8_doesGo_49 : decode cX8_doesGo 49 = .ok (.iconst 2, 1) := by decide +kernel
theorem dX8_doesGo_50 : decode cX8_doesGo 50 = .ok (.invokevirtual 229, 3) := by decide +kernel
theorem dX8_doesGo_53 : decode cX8_doesGo 53 = .ok (.iconst 1, 1) := by decide +kernel
theorem dX8_doesGo_54 : decode cX8_doesGo 54 = .ok (.if_icmp .ne 7, 3) := by decide +kernel
theorem dX8_doesGo_57 : decode cX8_doesGo 57 = .ok (.iconst 1, 1) := by decide +kernel
theorem dX8_doesGo_58 : decode cX8_doesGo 58 = .ok (.goto 4, 3) := by decide +kernel
theorem dX8_doesGo_61 : decode cX8_doesGo 61 = .ok (.iconst 0, 1) := by decide +kernel
theorem dX8_doesGo_62 : decode cX8_doesGo 62 = .ok (.ireturn, 1) := by decide +kernel
theorem dX8_goingAt_0 : decode cX8_goingAt 0 = .ok (.iconst 0, 1) := by decide +kernel
theorem dX8_goingAt_1 : decode cX8_goingAt 1 = .ok (.istore_n 2, 1) := by decide +kernel
theorem dX8_goingAt_2 : decode cX8_goingAt 2 = .ok (.iconst 0, 1) := by decide +kernel
theorem dX8_goingAt_3 : decode cX8_goingAt 3 = .ok (.istore_n 3, 1) := by decide +kernel
theorem dX8_goingAt_4 : decode cX8_goingAt 4 = .ok (.iload_n 3, 1) := by decide +kernel
theorem dX8_goingAt_5 : decode cX8_goingAt 5 = .ok (.aload_n 0, 1) := by decide +kernel
theorem dX8_goingAt_6 : decode cX8_goingAt 6 = .ok (.getfield 19, 3) := by decide +kernel
theorem dX8_goingAt_9 : decode cX8_goingAt 9 = .ok (.iconst 5, 1) := by decide +kernel
theorem dX8_goingAt_10 : decode cX8_goingAt 10 = .ok (.iaload, 1) := by decide +kernel
theorem dX8_goingAt_11 : decode cX8_goingAt 11 = .ok (.if_icmp .ge 28, 3) := by decide +kernel
theorem dX8_goingAt_14 : decode cX8_goingAt 14 = .ok (.iload_n 2, 1) := by decide +kernel
theorem dX8_goingAt_15 : decode cX8_goingAt 15 = .ok (.aload_n 0, 1) := by decide +kernel
theorem dX8_goingAt_16 : decode cX8_goingAt 16 = .ok (.iload_n 3, 1) := by decide +kernel
theorem dX8_goingAt_17 : decode cX8_goingAt 17 = .ok (.iload_n 1, 1) := by decide +kernel
theorem dX8_goingAt_18 : decode cX8_goingAt 18 = .ok (.invokevirtual 268, 3) := by decide +kernel
theorem dX8_goingAt_21 : decode cX8_goingAt 21 = .ok (.ifCond .eq 9, 3) := by decide +kernel
theorem dX8_goingAt_24 : decode cX8_goingAt 24 = .ok (.iconst 1, 1) := by decide +kernel
theorem dX8_goingAt_25 : decode cX8_goingAt 25 = .ok (.iload_n 3, 1) := by decide +kernel
theorem dX8_goingAt_26 : decode cX8_goingAt 26 = .ok (.ishl, 1) := by decide +kernel
theorem dX8_goingAt_27 : decode cX8_goingAt 27 = .ok (.goto 4, 3) := by decide +kernel
theorem dX8_goingAt_30 : decode cX8_goingAt 30 = .ok (.iconst 0, 1) := by decide +kernel
theorem dX8_goingAt_31 : decode cX8_goingAt 31 = .ok (.ior, 1) := by decide +kernel
theorem dX8_goingAt_32 : decode cX8_goingAt 32 = .ok (.istore_n 2, 1) := by decide +kernel
theorem dX8_goingAt_33 : decode cX8_goingAt 33 = .ok (.iinc 3 1, 3) := by decide +kernel
theorem dX8_goingAt_36 : decode cX8_goingAt 36 = .ok (.goto (-32), 3) := by decide +kernel
theorem dX8_goingAt_39 : decode cX8_goingAt 39 = .ok (.iload_n 2, 1) := by decide +kernel
theorem dX8_goingAt_40 : decode cX8_goingAt 40 = .ok (.ireturn, 1) := by decide +kernel
theorem dX8_goes_0 : decode cX8_goes 0 = .ok (.aload_n 0, 1) := by decide +kernel
theorem dX8_goes_1 : decode cX8_goes 1 = .ok (.iconst 0, 1) := by decide +kernel
theorem dX8_goes_2 : decode cX8_goes 2 = .ok (.putfield 68, 3) := by decide +kernel
theorem dX8_goes_5 : decode cX8_goes 5 = .ok (.aload_n 0, 1) := by decide +kernel
theorem dX8_goes_6 : decode cX8_goes 6 = .ok (.getfield 217, 3) := by decide +kernel
theorem dX8_goes_9 : decode cX8_goes 9 = .ok (.ifCond .ne 6, 3) := by decide +kernel
theorem dX8_goes_12 : decode cX8_goes 12 = .ok (.ldc 240, 2) := by decide +kernel
theorem dX8_goes_14 : decode cX8_goes 14 = .ok (.ireturn, 1) := by decide +kernel
theorem dX8_goes_15 : decode cX8_goes 15 = .ok (.iload_n 1, 1) := by decide +kernel
theorem dX8_goes_16 : decode cX8_goes 16 = .ok (.invokestatic 255, 3) := by decide +kernel
theorem dX8_goes_19 : decode cX8_goes 19 = .ok (.ifCond .eq 11, 3) := by decide +kernel
theorem dX8_goes_22 : decode cX8_goes 22 = .ok (.aload_n 0, 1) := by decide +kernel
theorem dX8_goes_23 : decode cX8_goes 23 = .ok (.iload_n 1, 1) := by decide +kernel
theorem dX8_goes_24 : decode cX8_goes 24 = .ok (.invokevirtual 272, 3) := by decide +kernel
theorem dX8_goes_27 : decode cX8_goes 27 = .ok (.goto 5, 3) := by decide +kernel
theorem dX8_goes_30 : decode cX8_goes 30 = .ok (.ldc 88, 2) := by decide +kernel
theorem dX8_goes_32 : decode cX8_goes 32 = .ok (.ireturn, 1) := by decide +kernel
theorem dX8_bits_0 : decode cX8_bits 0 = .ok (.iconst 0, 1) := by decide +kernel
theorem dX8_bits_1 : decode cX8_bits 1 = .ok (.istore_n 1, 1) := by decide +kernel
theorem dX8_bits_2 : decode cX8_bits 2 = .ok (.iconst 0, 1) := by decide +kernel
theorem dX8_bits_3 : decode cX8_bits 3 = .ok (.istore_n 2, 1) := by decide +kernel
theorem dX8_bits_4 : decode cX8_bits 4 = .ok (.iload_n 2, 1) := by decide +kernel
theorem dX8_bits_5 : decode cX8_bits 5 = .ok (.bipush 7, 2) := by decide +kernel
theorem dX8_bits_7 : decode cX8_bits 7 = .ok (.if_icmp .ge 17, 3) := by decide +kernel
theorem dX8_bits_10 : decode cX8_bits 10 = .ok (.iload_n 1, 1) := by decide +kernel
theorem dX8_bits_11 : decode cX8_bits 11 = .ok (.iload_n 0, 1) := by decide +kernel
theorem dX8_bits_12 : decode cX8_bits 12 = .ok (.iload_n 2, 1) := by decide +kernel
theorem dX8_bits_13 : decode cX8_bits 13 = .ok (.ishr, 1) := by decide +kernel
theorem dX8_bits_14 : decode cX8_bits 14 = .ok (.iconst 1, 1) := by decide +kernel
theorem dX8_bits_15 : decode cX8_bits 15 = .ok (.iand, 1) := by decide +kernel
theorem dX8_bits_16 : decode cX8_bits 16 = .ok (.iadd, 1) := by decide +kernel
theorem dX8_bits_17 : decode cX8_bits 17 = .ok (.istore_n 1, 1) := by decide +kernel
theorem dX8_bits_18 : decode cX8_bits 18 = .ok (.iinc 2 1, 3) := by decide +kernel
theorem dX8_bits_21 : decode cX8_bits 21 = .ok (.goto (-17), 3) := by decide +kernel
theorem dX8_bits_24 : decode cX8_bits 24 = .ok (.iload_n 1, 1) := by decide +kernel
theorem dX8_bits_25 : decode cX8_bits 25 = .ok (.ireturn, 1) := by decide +kernel
theorem dX8_fits_0 : decode cX8_fits 0 = .ok (.iload_n 2, 1) := by decide +kernel
theorem dX8_fits_1 : decode cX8_fits 1 = .ok (.iconst 1, 1) := by decide +kernel
theorem dX8_fits_2 : decode cX8_fits 2 = .ok (.aload_n 0, 1) := by decide +kernel
theorem dX8_fits_3 : decode cX8_fits 3 = .ok (.iload_n 1, 1) := by decide +kernel
theorem dX8_fits_4 : decode cX8_fits 4 = .ok (.iconst 0, 1) := by decide +kernel
theorem dX8_fits_5 : decode cX8_fits 5 = .ok (.invokevirtual 229, 3) := by decide +kernel
theorem dX8_fits_8 : decode cX8_fits 8 = .ok (.ishl, 1) := by decide +kernel
theorem dX8_fits_9 : decode cX8_fits 9 = .ok (.ior, 1) := by decide +kernel
theorem dX8_fits_10 : decode cX8_fits 10 = .ok (.istore_n 3, 1) := by decide +kernel
theorem dX8_fits_11 : decode cX8_fits 11 = .ok (.iload_n 2, 1) := by decide +kernel
theorem dX8_fits_12 : decode cX8_fits 12 = .ok (.invokestatic 275, 3) := by decide +kernel
theorem dX8_fits_15 : decode cX8_fits 15 = .ok (.aload_n 0, 1) := by decide +kernel
theorem dX8_fits_16 : decode cX8_fits 16 = .ok (.iload_n 1, 1) := by decide +kernel
theorem dX8_fits_17 : decode cX8_fits 17 = .ok (.iconst 1, 1) := by decide +kernel
theorem dX8_fits_18 : decode cX8_fits 18 = .ok (.invokevirtual 229, 3) := by decide +kernel
theorem dX8_fits_21 : decode cX8_fits 21 = .ok (.if_icmp .gt 7, 3) := by decide +kernel
theorem dX8_fits_24 : decode cX8_fits 24 = .ok (.iconst 1, 1) := by decide +kernel
theorem dX8_fits_25 : decode cX8_fits 25 = .ok (.goto 4, 3) := by decide +kernel
theorem dX8_fits_28 : decode cX8_fits 28 = .ok (.iconst 0, 1) := by decide +kernel
theorem dX8_fits_29 : decode cX8_fits 29 = .ok (.istore 4, 2) := by decide +kernel
theorem dX8_fits_31 : decode cX8_fits 31 = .ok (.iconst 0, 1) := by decide +kernel
theorem dX8_fits_32 : decode cX8_fits 32 = .ok (.istore 5, 2) := by decide +kernel
theorem dX8_fits_34 : decode cX8_fits 34 = .ok (.iload 5, 2) := by decide +kernel
theorem dX8_fits_36 : decode cX8_fits 36 = .ok (.aload_n 0, 1) := by decide +kernel
theorem dX8_fits_37 : decode cX8_fits 37 = .ok (.getfield 19, 3) := by decide +kernel
theorem dX8_fits_40 : decode cX8_fits 40 = .ok (.iconst 4, 1) := by decide +kernel
theorem dX8_fits_41 : decode cX8_fits 41 = .ok (.iaload, 1) := by decide +kernel
theorem dX8_fits_42 : decode cX8_fits 42 = .ok (.if_icmp .ge 102, 3) := by decide +kernel
theorem dX8_fits_45 : decode cX8_fits 45 = .ok (.iload 4, 2) := by decide +kernel
theorem dX8_fits_47 : decode cX8_fits 47 = .ok (.ifCond .eq 97, 3) := by decide +kernel
theorem dX8_fits_50 : decode cX8_fits 50 = .ok (.iload_n 3, 1) := by decide +kernel
theorem dX8_fits_51 : decode cX8_fits 51 = .ok (.iload 5, 2) := by decide +kernel
theorem dX8_fits_53 : decode cX8_fits 53 = .ok (.ishr, 1) := by decide +kernel
theorem dX8_fits_54 : decode cX8_fits 54 = .ok (.iconst 1, 1) := by decide +kernel
theorem dX8_fits_55 : decode cX8_fits 55 = .ok (.iand, 1) := by decide +kernel
theorem dX8_fits_56 : decode cX8_fits 56 = .ok (.iconst 1, 1) := by decide +kernel
theorem dX8_fits_57 : decode cX8_fits 57 = .ok (.if_icmp .ne 81, 3) := by decide +kernel
theorem dX8_fits_60 : decode cX8_fits 60 = .ok (.iload 5, 2) := by decide +kernel
theorem dX8_fits_62 : decode cX8_fits 62 = .ok (.aload_n 0, 1) := by decide +kernel
theorem dX8_fits_63 : decode cX8_fits 63 = .ok (.iload_n 1, 1) := by decide +kernel
theorem dX8_fits_64 : decode cX8_fits 64 = .ok (.iconst 0, 1) := by decide +kernel
theorem dX8_fits_65 : decode cX8_fits 65 = .ok (.invokevirtual 229, 3) := by decide +kernel
theorem dX8_fits_68 : decode cX8_fits 68 = .ok (.if_icmp .eq 25, 3) := by decide +kernel
theorem dX8_fits_71 : decode cX8_fits 71 = .ok (.aload_n 0, 1) := by decide +kernel
theorem dX8_fits_72 : decode cX8_fits 72 = .ok (.iload 5, 2) := by decide +kernel
theorem dX8_fits_74 : decode cX8_fits 74 = .ok (.invokevirtual 265, 3) := by decide +kernel
theorem dX8_fits_77 : decode cX8_fits 77 = .ok (.ifCond .eq 16, 3) := by decide +kernel
theorem dX8_fits_80 : decode cX8_fits 80 = .ok (.aload_n 0, 1) := by decide +kernel
theorem dX8_fits_81 : decode cX8_fits 81 = .ok (.iload_n 1, 1) := by decide +kernel
theorem dX8_fits_82 : decode cX8_fits 82 = .ok (.iconst 2, 1) := by decide +kernel
theorem dX8_fits_83 : decode cX8_fits 83 = .ok (.invokevirtual 229, 3) := by decide +kernel
theorem dX8_fits_86 : decode cX8_fits 86 = .ok (.ifCond .ne 7, 3) := by decide +kernel
theorem dX8_fits_89 : decode cX8_fits 89 = .ok (.iconst 1, 1) := by decide +kernel
theorem dX8_fits_90 : decode cX8_fits 90 = .ok (.goto 4, 3) := by decide +kernel
theorem dX8_fits_93 : decode cX8_fits 93 = .ok (.iconst 0, 1) := by decide +kernel
theorem dX8_fits_94 : decode cX8_fits 94 = .ok (.istore 6, 2) := by decide +kernel
theorem dX8_fits_96 : decode cX8_fits 96 = .ok (.aload_n 0, 1) := by decide +kernel
theorem dX8_fits_97 : decode cX8_fits 97 = .ok (.iload 5, 2) := by decide +kernel
theorem dX8_fits_99 : decode cX8_fits 99 = .ok (.iconst 3, 1) := by decide +kernel
theorem dX8_fits_100 : decode cX8_fits 100 = .ok (.invokevirtual 237, 3) := by decide +kernel
theorem dX8_fits_103 : decode cX8_fits 103 = .ok (.iload_n 3, 1) := by decide +kernel
theorem dX8_fits_104 : decode cX8_fits 104 = .ok (.iand, 1) := by decide +kernel
theorem dX8_fits_105 : decode cX8_fits 105 = .ok (.ifCond .ne 30, 3) := by decide +kernel
theorem dX8_fits_108 : decode cX8_fits 108 = .ok (.iload 6, 2) := by decide +kernel
theorem dX8_fits_110 : decode cX8_fits 110 = .ok (.ifCond .ne 25, 3) := by decide +kernel
theorem dX8_fits_113 : decode cX8_fits 113 = .ok (.aload_n 0, 1) := by decide +kernel
theorem dX8_fits_114 : decode cX8_fits 114 = .ok (.iconst 0, 1) := by decide +kernel
theorem dX8_fits_115 : decode cX8_fits 115 = .ok (.aload_n 0, 1) := by decide +kernel
theorem dX8_fits_116 : decode cX8_fits 116 = .ok (.iload 5, 2) := by decide +kernel
theorem dX8_fits_118 : decode cX8_fits 118 = .ok (.iconst 1, 1) := by decide +kernel
theorem dX8_fits_119 : decode cX8_fits 119 = .ok (.invokevirtual 237, 3) := by decide +kernel
theorem dX8_fits_122 : decode cX8_fits 122 = .ok (.invokevirtual 249, 3) := by decide +kernel
theorem dX8_fits_125 : decode cX8_fits 125 = .ok (.sipush 10000, 3) := by decide +kernel
theorem dX8_fits_128 : decode cX8_fits 128 = .ok (.if_icmp .ge 7, 3) := by decide +kernel
theorem dX8_fits_131 : decode cX8_fits 131 = .ok (.iconst 1, 1) := by decide +kernel
theorem dX8_fits_132 : decode cX8_fits 132 = .ok (.goto 4, 3) := by decide +kernel
theorem dX8_fits_135 : decode cX8_fits 135 = .ok (.iconst 0, 1) := by decide +kernel
theorem dX8_fits_136 : decode cX8_fits 136 = .ok (.istore 4, 2) := by decide +kernel
theorem dX8_fits_138 : decode cX8_fits 138 = .ok (.iinc 5 1, 3) := by decide +kernel
theorem dX8_fits_141 : decode cX8_fits 141 = .ok (.goto (-107), 3) := by decide +kernel
theorem dX8_fits_144 : decode cX8_fits 144 = .ok (.iload 4, 2) := by decide +kernel
theorem dX8_fits_146 : decode cX8_fits 146 = .ok (.ireturn, 1) := by decide +kernel
theorem dX8_minutesBy_0 : decode cX8_minutesBy 0 = .ok (.iconst 0, 1) := by decide +kernel
theorem dX8_minutesBy_1 : decode cX8_minutesBy 1 = .ok (.istore_n 3, 1) := by decide +kernel
theorem dX8_minutesBy_2 : decode cX8_minutesBy 2 = .ok (.iconst 0, 1) := by decide +kernel
theorem dX8_minutesBy_3 : decode cX8_minutesBy 3 = .ok (.istore 4, 2) := by decide +kernel
theorem dX8_minutesBy_5 : decode cX8_minutesBy 5 = .ok (.iconst 0, 1) := by decide +kernel
theorem dX8_minutesBy_6 : decode cX8_minutesBy 6 = .ok (.istore 5, 2) := by decide +kernel
theorem dX8_minutesBy_8 : decode cX8_minutesBy 8 = .ok (.iload 5, 2) := by decide +kernel
theorem dX8_minutesBy_10 : decode cX8_minutesBy 10 = .ok (.iload_n 2, 1) := by decide +kernel
theorem dX8_minutesBy_11 : decode cX8_minutesBy 11 = .ok (.if_icmp .ge 87, 3) := by decide +kernel
theorem dX8_minutesBy_14 : decode cX8_minutesBy 14 = .ok (.iload 5, 2) := by decide +kernel
theorem dX8_minutesBy_16 : decode cX8_minutesBy 16 = .ok (.ifCond .le 41, 3) := by decide +kernel
theorem dX8_minutesBy_19 : decode cX8_minutesBy 19 = .ok (.aload_n 0, 1) := by decide +kernel
theorem dX8_minutesBy_20 : decode cX8_minutesBy 20 = .ok (.aload_n 0, 1) := by decide +kernel
theorem dX8_minutesBy_21 : decode cX8_minutesBy 21 = .ok (.getfield 40, 3) := by decide +kernel
theorem dX8_minutesBy_24 : decode cX8_minutesBy 24 = .ok (.iload 5, 2) := by decide +kernel
theorem dX8_minutesBy_26 : decode cX8_minutesBy 26 = .ok (.iaload, 1) := by decide +kernel
theorem dX8_minutesBy_27 : decode cX8_minutesBy 27 = .ok (.iconst 0, 1) := by decide +kernel
theorem dX8_minutesBy_28 : decode cX8_minutesBy 28 = .ok (.invokevirtual 237, 3) := by decide +kernel
theorem dX8_minutesBy_31 : decode cX8_minutesBy 31 = .ok (.iconst 4, 1) := by decide +kernel
theorem dX8_minutesBy_32 : decode cX8_minutesBy 32 = .ok (.if_icmp .lt 25, 3) := by decide +kernel
theorem dX8_minutesBy_35 : decode cX8_minutesBy 35 = .ok (.aload_n 0, 1) := by decide +kernel
theorem dX8_minutesBy_36 : decode cX8_minutesBy 36 = .ok (.aload_n 0, 1) := by decide +kernel
theorem dX8_minutesBy_37 : decode cX8_minutesBy 37 = .ok (.getfield 40, 3) := by decide +kernel
theorem dX8_minutesBy_40 : decode cX8_minutesBy 40 = .ok (.iload 5, 2) := by decide +kernel
theorem dX8_minutesBy_42 : decode cX8_minutesBy 42 = .ok (.iconst 1, 1) := by decide +kernel
theorem dX8_minutesBy_43 : decode cX8_minutesBy 43 = .ok (.isub, 1) := by decide +kernel
theorem dX8_minutesBy_44 : decode cX8_minutesBy 44 = .ok (.iaload, 1) := by decide +kernel
theorem dX8_minutesBy_45 : decode cX8_minutesBy 45 = .ok (.iconst 0, 1) := by decide +kernel
theorem dX8_minutesBy_46 : decode cX8_minutesBy 46 = .ok (.invokevirtual 237, 3) := by decide +kernel
theorem dX8_minutesBy_49 : decode cX8_minutesBy 49 = .ok (.iconst 4, 1) := by decide +kernel
theorem dX8_minutesBy_50 : decode cX8_minutesBy 50 = .ok (.if_icmp .ge 7, 3) := by decide +kernel
theorem dX8_minutesBy_53 : decode cX8_minutesBy 53 = .ok (.sipush 10000, 3) := by decide +kernel
theorem dX8_minutesBy_56 : decode cX8_minutesBy 56 = .ok (.ireturn, 1) := by decide +kernel
theorem dX8_minutesBy_57 : decode cX8_minutesBy 57 = .ok (.iload 4, 2) := by decide +kernel
theorem dX8_minutesBy_59 : decode cX8_minutesBy 59 = .ok (.aload_n 0, 1) := by decide +kernel
theorem dX8_minutesBy_60 : decode cX8_minutesBy 60 = .ok (.iload_n 3, 1) := by decide +kernel
theorem dX8_minutesBy_61 : decode cX8_minutesBy 61 = .ok (.aload_n 0, 1) := by decide +kernel
theorem dX8_minutesBy_62 : decode cX8_minutesBy 62 = .ok (.aload_n 0, 1) := by decide +kernel
theorem dX8_minutesBy_63 : decode cX8_minutesBy 63 = .ok (.getfield 40, 3) := by decide +kernel
theorem dX8_minutesBy_66 : decode cX8_minutesBy 66 = .ok (.iload 5, 2) := by decide +kernel
theorem dX8_minutesBy_68 : decode cX8_minutesBy 68 = .ok (.iaload, 1) := by decide +kernel
theorem dX8_minutesBy_69 : decode cX8_minutesBy 69 = .ok (.iconst 1, 1) := by decide +kernel
theorem dX8_minutesBy_70 : decode cX8_minutesBy 70 = .ok (.invokevirtual 237, 3) := by decide +kernel
theorem dX8_minutesBy_73 : decode cX8_minutesBy 73 = .ok (.invokevirtual 249, 3) := by decide +kernel
theorem dX8_minutesBy_76 : decode cX8_minutesBy 76 = .ok (.iadd, 1) := by decide +kernel
theorem dX8_minutesBy_77 : decode cX8_minutesBy 77 = .ok (.istore 4, 2) := by decide +kernel
theorem dX8_minutesBy_79 : decode cX8_minutesBy 79 = .ok (.aload_n 0, 1) := by decide +kernel
theorem dX8_minutesBy_80 : decode cX8_minutesBy 80 = .ok (.aload_n 0, 1) := by decide +kernel
theorem dX8_minutesBy_81 : decode cX8_minutesBy 81 = .ok (.getfield 40, 3) := by decide +kernel
theorem dX8_minutesBy_84 : decode cX8_minutesBy 84 = .ok (.iload 5, 2) := by decide +kernel
theorem dX8_minutesBy_86 : decode cX8_minutesBy 86 = .ok (.iaload, 1) := by decide +kernel
theorem dX8_minutesBy_87 : decode cX8_minutesBy 87 = .ok (.iconst 1, 1) := by decide +kernel
theorem dX8_minutesBy_88 : decode cX8_minutesBy 88 = .ok (.invokevirtual 237, 3) := by decide +kernel
theorem dX8_minutesBy_91 : decode cX8_minutesBy 91 = .ok (.istore_n 3, 1) := by decide +kernel
theorem dX8_minutesBy_92 : decode cX8_minutesBy 92 = .ok (.iinc 5 1, 3) := by decide +kernel
theorem dX8_minutesBy_95 : decode cX8_minutesBy 95 = .ok (.goto (-87), 3) := by decide +kernel
theorem dX8_minutesBy_98 : decode cX8_minutesBy 98 = .ok (.iload 4, 2) := by decide +kernel
theorem dX8_minutesBy_100 : decode cX8_minutesBy 100 = .ok (.aload_n 0, 1) := by decide +kernel
theorem dX8_minutesBy_101 : decode cX8_minutesBy 101 = .ok (.iload_n 3, 1) := by decide +kernel
theorem dX8_minutesBy_102 : decode cX8_minutesBy 102 = .ok (.aload_n 0, 1) := by decide +kernel
theorem dX8_minutesBy_103 : decode cX8_minutesBy 103 = .ok (.aload_n 0, 1) := by decide +kernel
theorem dX8_minutesBy_104 : decode cX8_minutesBy 104 = .ok (.iload_n 1, 1) := by decide +kernel
theorem dX8_minutesBy_105 : decode cX8_minutesBy 105 = .ok (.iconst 0, 1) := by decide +kernel
theorem dX8_minutesBy_106 : decode cX8_minutesBy 106 = .ok (.invokevirtual 229, 3) := by decide +kernel
theorem dX8_minutesBy_109 : decode cX8_minutesBy 109 = .ok (.iconst 1, 1) := by decide +kernel
theorem dX8_minutesBy_110 : decode cX8_minutesBy 110 = .ok (.invokevirtual 237, 3) := by decide +kernel
theorem dX8_minutesBy_113 : decode cX8_minutesBy 113 = .ok (.invokevirtual 249, 3) := by decide +kernel
theorem dX8_minutesBy_116 : decode cX8_minutesBy 116 = .ok (.iadd, 1) := by decide +kernel
theorem dX8_minutesBy_117 : decode cX8_minutesBy 117 = .ok (.ireturn, 1) := by decide +kernel
theorem dX8_layTried_0 : decode cX8_layTried 0 = .ok (.iload_n 1, 1) := by decide +kernel
theorem dX8_layTried_1 : decode cX8_layTried 1 = .ok (.istore_n 3, 1) := by decide +kernel
theorem dX8_layTried_2 : decode cX8_layTried 2 = .ok (.iconst 0, 1) := by decide +kernel
theorem dX8_layTried_3 : decode cX8_layTried 3 = .ok (.istore 4, 2) := by decide +kernel
theorem dX8_layTried_5 : decode cX8_layTried 5 = .ok (.iload_n 2, 1) := by decide +kernel
theorem dX8_layTried_6 : decode cX8_layTried 6 = .ok (.iconst 1, 1) := by decide +kernel
theorem dX8_layTried_7 : decode cX8_layTried 7 = .ok (.isub, 1) := by decide +kernel
theorem dX8_layTried_8 : decode cX8_layTried 8 = .ok (.istore 5, 2) := by decide +kernel
theorem dX8_layTried_10 : decode cX8_layTried 10 = .ok (.iload 5, 2) := by decide +kernel
theorem dX8_layTried_12 : decode cX8_layTried 12 = .ok (.ifCond .lt 38, 3) := by decide +kernel
theorem dX8_layTried_15 : decode cX8_layTried 15 = .ok (.iload 4, 2) := by decide +kernel
theorem dX8_layTried_17 : decode cX8_layTried 17 = .ok (.iconst 1, 1) := by decide +kernel
theorem dX8_layTried_18 : decode cX8_layTried 18 = .ok (.iload_n 3, 1) := by decide +kernel
theorem dX8_layTried_19 : decode cX8_layTried 19 = .ok (.iload_n 2, 1) := by decide +kernel
theorem dX8_layTried_20 : decode cX8_layTried 20 = .ok (.irem, 1) := by decide +kernel
theorem dX8_layTried_21 : decode cX8_layTried 21 = .ok (.ishl, 1) := by decide +kernel
theorem dX8_layTried_22 : decode cX8_layTried 22 = .ok (.ior, 1) := by decide +kernel
theorem dX8_layTried_23 : decode cX8_layTried 23 = .ok (.istore 4, 2) := by decide +kernel
theorem dX8_layTried_25 : decode cX8_layTried 25 = .ok (.aload_n 0, 1) := by decide +kernel
theorem dX8_layTried_26 : decode cX8_layTried 26 = .ok (.getfield 40, 3) := by decide +kernel
theorem dX8_layTried_29 : decode cX8_layTried 29 = .ok (.iload 5, 2) := by decide +kernel
theorem dX8_layTried_31 : decode cX8_layTried 31 = .ok (.aload_n 0, 1) := by decide +kernel
theorem dX8_layTried_32 : decode cX8_layTried 32 = .ok (.getfield 37, 3) := by decide +kernel
theorem dX8_layTried_35 : decode cX8_layTried 35 = .ok (.iload_n 3, 1) := by decide +kernel
theorem dX8_layTried_36 : decode cX8_layTried 36 = .ok (.iload_n 2, 1) := by decide +kernel
theorem dX8_layTried_37 : decode cX8_layTried 37 = .ok (.irem, 1) := by decide +kernel
theorem dX8_layTried_38 : decode cX8_layTried 38 = .ok (.iaload, 1) := by decide +kernel
theorem dX8_layTried_39 : decode cX8_layTried 39 = .ok (.iastore, 1) := by decide +kernel
theorem dX8_layTried_40 : decode cX8_layTried 40 = .ok (.iload_n 3, 1) := by decide +kernel
theorem dX8_layTried_41 : decode cX8_layTried 41 = .ok (.iload_n 2, 1) := by decide +kernel
theorem dX8_layTried_42 : decode cX8_layTried 42 = .ok (.idiv, 1) := by decide +kernel
theorem dX8_layTried_43 : decode cX8_layTried 43 = .ok (.istore_n 3, 1) := by decide +kernel
theorem dX8_layTried_44 : decode cX8_layTried 44 = .ok (.iinc 5 (-1), 3) := by decide +kernel
theorem dX8_layTried_47 : decode cX8_layTried 47 = .ok (.goto (-37), 3) := by decide +kernel
theorem dX8_layTried_50 : decode cX8_layTried 50 = .ok (.iload 4, 2) := by decide +kernel
theorem dX8_layTried_52 : decode cX8_layTried 52 = .ok (.iconst 1, 1) := by decide +kernel
theorem dX8_layTried_53 : decode cX8_layTried 53 = .ok (.iload_n 2, 1) := by decide +kernel
theorem dX8_layTried_54 : decode cX8_layTried 54 = .ok (.ishl, 1) := by decide +kernel
theorem dX8_layTried_55 : decode cX8_layTried 55 = .ok (.iconst 1, 1) := by decide +kernel
theorem dX8_layTried_56 : decode cX8_layTried 56 = .ok (.isub, 1) := by decide +kernel
theorem dX8_layTried_57 : decode cX8_layTried 57 = .ok (.if_icmp .ne 7, 3) := by decide +kernel
theorem dX8_layTried_60 : decode cX8_layTried 60 = .ok (.iconst 1, 1) := by decide +kernel
theorem dX8_layTried_61 : decode cX8_layTried 61 = .ok (.goto 4, 3) := by decide +kernel
theorem dX8_layTried_64 : decode cX8_layTried 64 = .ok (.iconst 0, 1) := by decide +kernel
theorem dX8_layTried_65 : decode cX8_layTried 65 = .ok (.ireturn, 1) := by decide +kernel
theorem dX8_leastOf_0 : decode cX8_leastOf 0 = .ok (.iconst 0, 1) := by decide +kernel
theorem dX8_leastOf_1 : decode cX8_leastOf 1 = .ok (.istore_n 3, 1) := by decide +kernel
theorem dX8_leastOf_2 : decode cX8_leastOf 2 = .ok (.iconst 0, 1) := by decide +kernel
theorem dX8_leastOf_3 : decode cX8_leastOf 3 = .ok (.istore 4, 2) := by decide +kernel
theorem dX8_leastOf_5 : decode cX8_leastOf 5 = .ok (.iload 4, 2) := by decide +kernel
theorem dX8_leastOf_7 : decode cX8_leastOf 7 = .ok (.bipush 7, 2) := by decide +kernel
theorem dX8_leastOf_9 : decode cX8_leastOf 9 = .ok (.if_icmp .ge 30, 3) := by decide +kernel
theorem dX8_leastOf_12 : decode cX8_leastOf 12 = .ok (.iload_n 2, 1) := by decide +kernel
theorem dX8_leastOf_13 : decode cX8_leastOf 13 = .ok (.iload 4, 2) := by decide +kernel
theorem dX8_leastOf_15 : decode cX8_leastOf 15 = .ok (.ishr, 1) := by decide +kernel
theorem dX8_leastOf_16 : decode cX8_leastOf 16 = .ok (.iconst 1, 1) := by decide +kernel
theorem dX8_leastOf_17 : decode cX8_leastOf 17 = .ok (.iand, 1) := by decide +kernel
theorem dX8_leastOf_18 : decode cX8_leastOf 18 = .ok (.iconst 1, 1) := by decide +kernel
theorem dX8_leastOf_19 : decode cX8_leastOf 19 = .ok (.if_icmp .ne 14, 3) := by decide +kernel
theorem dX8_leastOf_22 : decode cX8_leastOf 22 = .ok (.aload_n 0, 1) := by decide +kernel
theorem dX8_leastOf_23 : decode cX8_leastOf 23 = .ok (.getfield 37, 3) := by decide +kernel
theorem dX8_leastOf_26 : decode cX8_leastOf 26 = .ok (.iload_n 3, 1) := by decide +kernel
theorem dX8_leastOf_27 : decode cX8_leastOf 27 = .ok (.iload 4, 2) := by decide +kernel
theorem dX8_leastOf_29 : decode cX8_leastOf 29 = .ok (.iastore, 1) := by decide +kernel
theorem dX8_leastOf_30 : decode cX8_leastOf 30 = .ok (.iinc 3 1, 3) := by decide +kernel
theorem dX8_leastOf_33 : decode cX8_leastOf 33 = .ok (.iinc 4 1, 3) := by decide +kernel
theorem dX8_leastOf_36 : decode cX8_leastOf 36 = .ok (.goto (-31), 3) := by decide +kernel
theorem dX8_leastOf_39 : decode cX8_leastOf 39 = .ok (.iload_n 3, 1) := by decide +kernel
theorem dX8_leastOf_40 : decode cX8_leastOf 40 = .ok (.iconst 4, 1) := by decide +kernel
theorem dX8_leastOf_41 : decode cX8_leastOf 41 = .ok (.if_icmp .ne 9, 3) := by decide +kernel
theorem dX8_leastOf_44 : decode cX8_leastOf 44 = .ok (.sipush 256, 3) := by decide +kernel
theorem dX8_leastOf_47 : decode cX8_leastOf 47 = .ok (.goto 23, 3) := by decide +kernel
theorem dX8_leastOf_50 : decode cX8_leastOf 50 = .ok (.iload_n 3, 1) := by decide +kernel
theorem dX8_leastOf_51 : decode cX8_leastOf 51 = .ok (.iconst 3, 1) := by decide +kernel
theorem dX8_leastOf_52 : decode cX8_leastOf 52 = .ok (.if_icmp .ne 8, 3) := by decide +kernel
theorem dX8_leastOf_55 : decode cX8_leastOf 55 = .ok (.bipush 27, 2) := by decide +kernel
theorem dX8_leastOf_57 : decode cX8_leastOf 57 = .ok (.goto 13, 3) := by decide +kernel
theorem dX8_leastOf_60 : decode cX8_leastOf 60 = .ok (.iload_n 3, 1) := by decide +kernel
theorem dX8_leastOf_61 : decode cX8_leastOf 61 = .ok (.iconst 2, 1) := by decide +kernel
theorem dX8_leastOf_62 : decode cX8_leastOf 62 = .ok (.if_icmp .ne 7, 3) := by decide +kernel
theorem dX8_leastOf_65 : decode cX8_leastOf 65 = .ok (.iconst 4, 1) := by decide +kernel
theorem dX8_leastOf_66 : decode cX8_leastOf 66 = .ok (.goto 4, 3) := by decide +kernel
theorem dX8_leastOf_69 : decode cX8_leastOf 69 = .ok (.iconst 1, 1) := by decide +kernel
theorem dX8_leastOf_70 : decode cX8_leastOf 70 = .ok (.istore 4, 2) := by decide +kernel
theorem dX8_leastOf_72 : decode cX8_leastOf 72 = .ok (.sipush 10000, 3) := by decide +kernel
theorem dX8_leastOf_75 : decode cX8_leastOf 75 = .ok (.istore 5, 2) := by decide +kernel
theorem dX8_leastOf_77 : decode cX8_leastOf 77 = .ok (.iconst 0, 1) := by decide +kernel
theorem dX8_leastOf_78 : decode cX8_leastOf 78 = .ok (.istore 6, 2) := by decide +kernel
theorem dX8_leastOf_80 : decode cX8_leastOf 80 = .ok (.iload 6, 2) := by decide +kernel
theorem dX8_leastOf_82 : decode cX8_leastOf 82 = .ok (.iload 4, 2) := by decide +kernel
theorem dX8_leastOf_84 : decode cX8_leastOf 84 = .ok (.if_icmp .ge 73, 3) := by decide +kernel
theorem dX8_leastOf_87 : decode cX8_leastOf 87 = .ok (.aload_n 0, 1) := by decide +kernel
theorem dX8_leastOf_88 : decode cX8_leastOf 88 = .ok (.iload 6, 2) := by decide +kernel
theorem dX8_leastOf_90 : decode cX8_leastOf 90 = .ok (.iload_n 3, 1) := by decide +kernel
theorem dX8_leastOf_91 : decode cX8_leastOf 91 = .ok (.invokevirtual 278, 3) := by decide +kernel
theorem dX8_leastOf_94 : decode cX8_leastOf 94 = .ok (.ifCond .eq 12, 3) := by decide +kernel
theorem dX8_leastOf_97 : decode cX8_leastOf 97 = .ok (.aload_n 0, 1) := by decide +kernel
theorem dX8_leastOf_98 : decode cX8_leastOf 98 = .ok (.iload_n 1, 1) := by decide +kernel
theorem dX8_leastOf_99 : decode cX8_leastOf 99 = .ok (.iload_n 3, 1) := by decide +kernel
theorem dX8_leastOf_100 : decode cX8_leastOf 100 = .ok (.invokevirtual 281, 3) := by decide +kernel
theorem dX8_leastOf_103 : decode cX8_leastOf 103 = .ok (.goto 6, 3) := by decide +kernel
theorem dX8_leastOf_106 : decode cX8_leastOf 106 = .ok (.sipush 10000, 3) := by decide +kernel
theorem dX8_leastOf_109 : decode cX8_leastOf 109 = .ok (.istore 7, 2) := by decide +kernel
theorem dX8_leastOf_111 : decode cX8_leastOf 111 = .ok (.iload 7, 2) := by decide +kernel
theorem dX8_leastOf_113 : decode cX8_leastOf 113 = .ok (.iload 5, 2) := by decide +kernel
theorem dX8_leastOf_115 : decode cX8_leastOf 115 = .ok (.if_icmp .ge 36, 3) := by decide +kernel
theorem dX8_leastOf_118 : decode cX8_leastOf 118 = .ok (.iload 7, 2) := by decide +kernel
theorem dX8_leastOf_120 : decode cX8_leastOf 120 = .ok (.istore 5, 2) := by decide +kernel
theorem dX8_leastOf_122 : decode cX8_leastOf 122 = .ok (.iconst 0, 1) := by decide +kernel
theorem dX8_leastOf_123 : decode cX8_leastOf 123 = .ok (.istore 8, 2) := by decide +kernel
theorem dX8_leastOf_125 : decode cX8_leastOf 125 = .ok (.iload 8, 2) := by decide +kernel
theorem dX8_leastOf_127 : decode cX8_leastOf 127 = .ok (.iload_n 3, 1) := by decide +kernel
theorem dX8_leastOf_128 : decode cX8_leastOf 128 = .ok (.if_icmp .ge 23, 3) := by decide +kernel
theorem dX8_leastOf_131 : decode cX8_leastOf 131 = .ok (.aload_n 0, 1) := by decide +kernel
theorem dX8_leastOf_132 : decode cX8_leastOf 132 = .ok (.getfield 43, 3) := by decide +kernel
theorem dX8_leastOf_135 : decode cX8_leastOf 135 = .ok (.iload 8, 2) := by decide +kernel
theorem dX8_leastOf_137 : decode cX8_leastOf 137 = .ok (.aload_n 0, 1) := by decide +kernel
theorem dX8_leastOf_138 : decode cX8_leastOf 138 = .ok (.getfield 40, 3) := by decide +kernel
theorem dX8_leastOf_141 : decode cX8_leastOf 141 = .ok (.iload 8, 2) := by decide +kernel
theorem dX8_leastOf_143 : decode cX8_leastOf 143 = .ok (.iaload, 1) := by decide +kernel
theorem dX8_leastOf_144 : decode cX8_leastOf 144 = .ok (.iastore, 1) := by decide +kernel
theorem dX8_leastOf_145 : decode cX8_leastOf 145 = .ok (.iinc 8 1, 3) := by decide +kernel
theorem dX8_leastOf_148 : decode cX8_leastOf 148 = .ok (.goto (-23), 3) := by decide +kernel
theorem dX8_leastOf_151 : decode cX8_leastOf 151 = .ok (.iinc 6 1, 3) := by decide +kernel
theorem dX8_leastOf_154 : decode cX8_leastOf 154 = .ok (.goto (-74), 3) := by decide +kernel
theorem dX8_leastOf_157 : decode cX8_leastOf 157 = .ok (.iload 5, 2) := by decide +kernel
theorem dX8_leastOf_159 : decode cX8_leastOf 159 = .ok (.ireturn, 1) := by decide +kernel
theorem dX8_layRiders_0 : decode cX8_layRiders 0 = .ok (.aload_n 0, 1) := by decide +kernel
theorem dX8_layRiders_1 : decode cX8_layRiders 1 = .ok (.iconst 0, 1) := by decide +kernel
theorem dX8_layRiders_2 : decode cX8_layRiders 2 = .ok (.putfield 284, 3) := by decide +kernel
theorem dX8_layRiders_5 : decode cX8_layRiders 5 = .ok (.iconst 0, 1) := by decide +kernel
theorem dX8_layRiders_6 : decode cX8_layRiders 6 = .ok (.istore_n 1, 1) := by decide +kernel
theorem dX8_layRiders_7 : decode cX8_layRiders 7 = .ok (.iload_n 1, 1) := by decide +kernel
theorem dX8_layRiders_8 : decode cX8_layRiders 8 = .ok (.aload_n 0, 1) := by decide +kernel
theorem dX8_layRiders_9 : decode cX8_layRiders 9 = .ok (.getfield 19, 3) := by decide +kernel
theorem dX8_layRiders_12 : decode cX8_layRiders 12 = .ok (.iconst 4, 1) := by decide +kernel
theorem dX8_layRiders_13 : decode cX8_layRiders 13 = .ok (.iaload, 1) := by decide +kernel
theorem dX8_layRiders_14 : decode cX8_layRiders 14 = .ok (.if_icmp .ge 52, 3) := by decide +kernel
theorem dX8_layRiders_17 : decode cX8_layRiders 17 = .ok (.aload_n 0, 1) := by decide +kernel
theorem dX8_layRiders_18 : decode cX8_layRiders 18 = .ok (.iload_n 1, 1) := by decide +kernel
theorem dX8_layRiders_19 : decode cX8_layRiders 19 = .ok (.invokevirtual 243, 3) := by decide +kernel
theorem dX8_layRiders_22 : decode cX8_layRiders 22 = .ok (.istore_n 2, 1) := by decide +kernel
theorem dX8_layRiders_23 : decode cX8_layRiders 23 = .ok (.iload_n 2, 1) := by decide +kernel
theorem dX8_layRiders_24 : decode cX8_layRiders 24 = .ok (.ldc 104, 2) := by decide +kernel
theorem dX8_layRiders_26 : decode cX8_layRiders 26 = .ok (.if_icmp .eq 14, 3) := by decide +kernel
theorem dX8_layRiders_29 : decode cX8_layRiders 29 = .ok (.aload_n 0, 1) := by decide +kernel
theorem dX8_layRiders_30 : decode cX8_layRiders 30 = .ok (.getfield 287, 3) := by decide +kernel
theorem dX8_layRiders_33 : decode cX8_layRiders 33 = .ok (.iload_n 2, 1) := by decide +kernel
theorem dX8_layRiders_34 : decode cX8_layRiders 34 = .ok (.ishr, 1) := by decide +kernel
theorem dX8_layRiders_35 : decode cX8_layRiders 35 = .ok (.iconst 1, 1) := by decide +kernel
theorem dX8_layRiders_36 : decode cX8_layRiders 36 = .ok (.iand, 1) := by decide +kernel
theorem dX8_layRiders_37 : decode cX8_layRiders 37 = .ok (.ifCond .ne 23, 3) := by decide +kernel
theorem dX8_layRiders_40 : decode cX8_layRiders 40 = .ok (.aload_n 0, 1) := by decide +kernel
theorem dX8_layRiders_41 : decode cX8_layRiders 41 = .ok (.getfield 49, 3) := by decide +kernel
theorem dX8_layRiders_44 : decode cX8_layRiders 44 = .ok (.aload_n 0, 1) := by decide +kernel
theorem dX8_layRiders_45 : decode cX8_layRiders 45 = .ok (.getfield 284, 3) := by decide +kernel
theorem dX8_layRiders_48 : decode cX8_layRiders 48 = .ok (.iload_n 1, 1) := by decide +kernel
theorem dX8_layRiders_49 : decode cX8_layRiders 49 = .ok (.iastore, 1) := by decide +kernel
theorem dX8_layRiders_50 : decode cX8_layRiders 50 = .ok (.aload_n 0, 1) := by decide +kernel
theorem dX8_layRiders_51 : decode cX8_layRiders 51 = .ok (.dup, 1) := by decide +kernel
theorem dX8_layRiders_52 : decode cX8_layRiders 52 = .ok (.getfield 284, 3) := by decide +kernel
theorem dX8_layRiders_55 : decode cX8_layRiders 55 = .ok (.iconst 1, 1) := by decide +kernel
theorem dX8_layRiders_56 : decode cX8_layRiders 56 = .ok (.iadd, 1) := by decide +kernel
theorem dX8_layRiders_57 : decode cX8_layRiders 57 = .ok (.putfield 284, 3) := by decide +kernel
theorem dX8_layRiders_60 : decode cX8_layRiders 60 = .ok (.iinc 1 1, 3) := by decide +kernel
theorem dX8_layRiders_63 : decode cX8_layRiders 63 = .ok (.goto (-56), 3) := by decide +kernel
theorem dX8_layRiders_66 : decode cX8_layRiders 66 = .ok (.return_, 1) := by decide +kernel
theorem dX8_layTakes_0 : decode cX8_layTakes 0 = .ok (.iconst 0, 1) := by decide +kernel
theorem dX8_layTakes_1 : decode cX8_layTakes 1 = .ok (.istore_n 1, 1) := by decide +kernel
theorem dX8_layTakes_2 : decode cX8_layTakes 2 = .ok (.iload_n 1, 1) := by decide +kernel
theorem dX8_layTakes_3 : decode cX8_layTakes 3 = .ok (.iconst 3, 1) := by decide +kernel
theorem dX8_layTakes_4 : decode cX8_layTakes 4 = .ok (.if_icmp .ge 90, 3) := by decide +kernel
theorem dX8_layTakes_7 : decode cX8_layTakes 7 = .ok (.iconst 0, 1) := by decide +kernel
theorem dX8_layTakes_8 : decode cX8_layTakes 8 = .ok (.istore_n 2, 1) := by decide +kernel
theorem dX8_layTakes_9 : decode cX8_layTakes 9 = .ok (.iload_n 2, 1) := by decide +kernel
theorem dX8_layTakes_10 : decode cX8_layTakes 10 = .ok (.sipush 128, 3) := by decide +kernel
theorem dX8_layTakes_13 : decode cX8_layTakes 13 = .ok (.if_icmp .ge 75, 3) := by decide +kernel
theorem dX8_layTakes_16 : decode cX8_layTakes 16 = .ok (.aload_n 0, 1) := by decide +kernel
theorem dX8_layTakes_17 : decode cX8_layTakes 17 = .ok (.getfield 287, 3) := by decide +kernel
theorem dX8_layTakes_20 : decode cX8_layTakes 20 = .ok (.iload_n 1, 1) := by decide +kernel
theorem dX8_layTakes_21 : decode cX8_layTakes 21 = .ok (.ishr, 1) := by decide +kernel
theorem dX8_layTakes_22 : decode cX8_layTakes 22 = .ok (.iconst 1, 1) := by decide +kernel
theorem dX8_layTakes_23 : decode cX8_layTakes 23 = .ok (.iand, 1) := by decide +kernel
theorem dX8_layTakes_24 : decode cX8_layTakes 24 = .ok (.iconst 1, 1) := by decide +kernel
theorem dX8_layTakes_25 : decode cX8_layTakes 25 = .ok (.if_icmp .ne 28, 3) := by decide +kernel
theorem dX8_layTakes_28 : decode cX8_layTakes 28 = .ok (.iload_n 2, 1) := by decide +kernel
theorem dX8_layTakes_29 : decode cX8_layTakes 29 = .ok (.iconst 1, 1) := by decide +kernel
theorem dX8_layTakes_30 : decode cX8_layTakes 30 = .ok (.aload_n 0, 1) := by decide +kernel
theorem dX8_layTakes_31 : decode cX8_layTakes 31 = .ok (.getfield 19, 3) := by decide +kernel
theorem dX8_layTakes_34 : decode cX8_layTakes 34 = .ok (.iconst 4, 1) := by decide +kernel
theorem dX8_layTakes_35 : decode cX8_layTakes 35 = .ok (.iaload, 1) := by decide +kernel
theorem dX8_layTakes_36 : decode cX8_layTakes 36 = .ok (.ishl, 1) := by decide +kernel
theorem dX8_layTakes_37 : decode cX8_layTakes 37 = .ok (.if_icmp .ge 16, 3) := by decide +kernel
theorem dX8_layTakes_40 : decode cX8_layTakes 40 = .ok (.aload_n 0, 1) := by decide +kernel
theorem dX8_layTakes_41 : decode cX8_layTakes 41 = .ok (.iload_n 1, 1) := by decide +kernel
theorem dX8_layTakes_42 : decode cX8_layTakes 42 = .ok (.iload_n 2, 1) := by decide +kernel
theorem dX8_layTakes_43 : decode cX8_layTakes 43 = .ok (.invokevirtual 290, 3) := by decide +kernel
theorem dX8_layTakes_46 : decode cX8_layTakes 46 = .ok (.ifCond .eq 7, 3) := by decide +kernel
theorem dX8_layTakes_49 : decode cX8_layTakes 49 = .ok (.iconst 1, 1) := by decide +kernel
theorem dX8_layTakes_50 : decode cX8_layTakes 50 = .ok (.goto 4, 3) := by decide +kernel
theorem dX8_layTakes_53 : decode cX8_layTakes 53 = .ok (.iconst 0, 1) := by decide +kernel
theorem dX8_layTakes_54 : decode cX8_layTakes 54 = .ok (.istore_n 3, 1) := by decide +kernel
theorem dX8_layTakes_55 : decode cX8_layTakes 55 = .ok (.aload_n 0, 1) := by decide +kernel
theorem dX8_layTakes_56 : decode cX8_layTakes 56 = .ok (.getfield 34, 3) := by decide +kernel
theorem dX8_layTakes_59 : decode cX8_layTakes 59 = .ok (.sipush 128, 3) := by decide +kernel
theorem dX8_layTakes_62 : decode cX8_layTakes 62 = .ok (.iload_n 1, 1) := by decide +kernel
theorem dX8_layTakes_63 : decode cX8_layTakes 63 = .ok (.imul, 1) := by decide +kernel
theorem dX8_layTakes_64 : decode cX8_layTakes 64 = .ok (.iload_n 2, 1) := by decide +kernel
theorem dX8_layTakes_65 : decode cX8_layTakes 65 = .ok (.iadd, 1) := by decide +kernel
theorem dX8_layTakes_66 : decode cX8_layTakes 66 = .ok (.iload_n 3, 1) := by decide +kernel
theorem dX8_layTakes_67 : decode cX8_layTakes 67 = .ok (.ifCond .eq 12, 3) := by decide +kernel
theorem dX8_layTakes_70 : decode cX8_layTakes 70 = .ok (.aload_n 0, 1) := by decide +kernel
theorem dX8_layTakes_71 : decode cX8_layTakes 71 = .ok (.iload_n 1, 1) := by decide +kernel
theorem dX8_layTakes_72 : decode cX8_layTakes 72 = .ok (.iload_n 2, 1) := by decide +kernel
theorem dX8_layTakes_73 : decode cX8_layTakes 73 = .ok (.invokevirtual 293, 3) := by decide +kernel
theorem dX8_layTakes_76 : decode cX8_layTakes 76 = .ok (.goto 5, 3) := by decide +kernel
theorem dX8_layTakes_79 : decode cX8_layTakes 79 = .ok (.ldc 104, 2) := by decide +kernel
theorem dX8_layTakes_81 : decode cX8_layTakes 81 = .ok (.iastore, 1) := by decide +kernel
theorem dX8_layTakes_82 : decode cX8_layTakes 82 = .ok (.iinc 2 1, 3) := by decide +kernel
theorem dX8_layTakes_85 : decode cX8_layTakes 85 = .ok (.goto (-76), 3) := by decide +kernel
theorem dX8_layTakes_88 : decode cX8_layTakes 88 = .ok (.iinc 1 1, 3) := by decide +kernel
theorem dX8_layTakes_91 : decode cX8_layTakes 91 = .ok (.goto (-89), 3) := by decide +kernel
theorem dX8_layTakes_94 : decode cX8_layTakes 94 = .ok (.return_, 1) := by decide +kernel
theorem dX8_layRow_0 : decode cX8_layRow 0 = .ok (.iload_n 1, 1) := by decide +kernel
theorem dX8_layRow_1 : decode cX8_layRow 1 = .ok (.istore_n 2, 1) := by decide +kernel
theorem dX8_layRow_2 : decode cX8_layRow 2 = .ok (.iconst 0, 1) := by decide +kernel
theorem dX8_layRow_3 : decode cX8_layRow 3 = .ok (.istore_n 3, 1) := by decide +kernel
theorem dX8_layRow_4 : decode cX8_layRow 4 = .ok (.iload_n 3, 1) := by decide +kernel
theorem dX8_layRow_5 : decode cX8_layRow 5 = .ok (.iconst 4, 1) := by decide +kernel
theorem dX8_layRow_6 : decode cX8_layRow 6 = .ok (.if_icmp .ge 16, 3) := by decide +kernel
theorem dX8_layRow_9 : decode cX8_layRow 9 = .ok (.aload_n 0, 1) := by decide +kernel
theorem dX8_layRow_10 : decode cX8_layRow 10 = .ok (.getfield 52, 3) := by decide +kernel
theorem dX8_layRow_13 : decode cX8_layRow 13 = .ok (.iload_n 3, 1) := by decide +kernel
theorem dX8_layRow_14 : decode cX8_layRow 14 = .ok (.iconst 0, 1) := by decide +kernel
theorem dX8_layRow_15 : decode cX8_layRow 15 = .ok (.iastore, 1) := by decide +kernel
theorem dX8_layRow_16 : decode cX8_layRow 16 = .ok (.iinc 3 1, 3) := by decide +kernel
theorem dX8_layRow_19 : decode cX8_layRow 19 = .ok (.goto (-15), 3) := by decide +kernel
theorem dX8_layRow_22 : decode cX8_layRow 22 = .ok (.aload_n 0, 1) := by decide +kernel
theorem dX8_layRow_23 : decode cX8_layRow 23 = .ok (.getfield 284, 3) := by decide +kernel
theorem dX8_layRow_26 : decode cX8_layRow 26 = .ok (.iconst 1, 1) := by decide +kernel
theorem dX8_layRow_27 : decode cX8_layRow 27 = .ok (.isub, 1) := by decide +kernel
theorem dX8_layRow_28 : decode cX8_layRow 28 = .ok (.istore_n 3, 1) := by decide +kernel
theorem dX8_layRow_29 : decode cX8_layRow 29 = .ok (.iload_n 3, 1) := by decide +kernel
theorem dX8_layRow_30 : decode cX8_layRow 30 = .ok (.ifCond .lt 32, 3) := by decide +kernel
theorem dX8_layRow_33 : decode cX8_layRow 33 = .ok (.aload_n 0, 1) := by decide +kernel
theorem dX8_layRow_34 : decode cX8_layRow 34 = .ok (.getfield 52, 3) := by decide +kernel
theorem dX8_layRow_37 : decode cX8_layRow 37 = .ok (.iload_n 2, 1) := by decide +kernel
theorem dX8_layRow_38 : decode cX8_layRow 38 = .ok (.iconst 3, 1) := by decide +kernel
theorem dX8_layRow_39 : decode cX8_layRow 39 = .ok (.iand, 1) := by decide +kernel
theorem dX8_layRow_40 : decode cX8_layRow 40 = .ok (.dup2, 1) := by decide +kernel
theorem dX8_layRow_41 : decode cX8_layRow 41 = .ok (.iaload, 1) := by decide +kernel
theorem dX8_layRow_42 : decode cX8_layRow 42 = .ok (.iconst 1, 1) := by decide +kernel
theorem dX8_layRow_43 : decode cX8_layRow 43 = .ok (.aload_n 0, 1) := by decide +kernel
theorem dX8_layRow_44 : decode cX8_layRow 44 = .ok (.getfield 49, 3) := by decide +kernel
theorem dX8_layRow_47 : decode cX8_layRow 47 = .ok (.iload_n 3, 1) := by decide +kernel
theorem dX8_layRow_48 : decode cX8_layRow 48 = .ok (.iaload, 1) := by decide +kernel
theorem dX8_layRow_49 : decode cX8_layRow 49 = .ok (.ishl, 1) := by decide +kernel
theorem dX8_layRow_50 : decode cX8_layRow 50 = .ok (.ior, 1) := by decide +kernel
theorem dX8_layRow_51 : decode cX8_layRow 51 = .ok (.iastore, 1) := by decide +kernel
theorem dX8_layRow_52 : decode cX8_layRow 52 = .ok (.iload_n 2, 1) := by decide +kernel
theorem dX8_layRow_53 : decode cX8_layRow 53 = .ok (.iconst 2, 1) := by decide +kernel
theorem dX8_layRow_54 : decode cX8_layRow 54 = .ok (.ishr, 1) := by decide +kernel
theorem dX8_layRow_55 : decode cX8_layRow 55 = .ok (.istore_n 2, 1) := by decide +kernel
theorem dX8_layRow_56 : decode cX8_layRow 56 = .ok (.iinc 3 (-1), 3) := by decide +kernel
theorem dX8_layRow_59 : decode cX8_layRow 59 = .ok (.goto (-30), 3) := by decide +kernel
theorem dX8_layRow_62 : decode cX8_layRow 62 = .ok (.return_, 1) := by decide +kernel
theorem dX8_sumOf_0 : decode cX8_sumOf 0 = .ok (.iconst 0, 1) := by decide +kernel
theorem dX8_sumOf_1 : decode cX8_sumOf 1 = .ok (.istore_n 1, 1) := by decide +kernel
theorem dX8_sumOf_2 : decode cX8_sumOf 2 = .ok (.iconst 0, 1) := by decide +kernel
theorem dX8_sumOf_3 : decode cX8_sumOf 3 = .ok (.istore_n 2, 1) := by decide +kernel
theorem dX8_sumOf_4 : decode cX8_sumOf 4 = .ok (.iload_n 2, 1) := by decide +kernel
theorem dX8_sumOf_5 : decode cX8_sumOf 5 = .ok (.iconst 3, 1) := by decide +kernel
theorem dX8_sumOf_6 : decode cX8_sumOf 6 = .ok (.if_icmp .ge 91, 3) := by decide +kernel
theorem dX8_sumOf_9 : decode cX8_sumOf 9 = .ok (.iload_n 1, 1) := by decide +kernel
theorem dX8_sumOf_10 : decode cX8_sumOf 10 = .ok (.ldc 104, 2) := by decide +kernel
theorem dX8_sumOf_12 : decode cX8_sumOf 12 = .ok (.if_icmp .eq 85, 3) := by decide +kernel
theorem dX8_sumOf_15 : decode cX8_sumOf 15 = .ok (.aload_n 0, 1) := by decide +kernel
theorem dX8_sumOf_16 : decode cX8_sumOf 16 = .ok (.getfield 287, 3) := by decide +kernel
theorem dX8_sumOf_19 : decode cX8_sumOf 19 = .ok (.iload_n 2, 1) := by decide +kernel
theorem dX8_sumOf_20 : decode cX8_sumOf 20 = .ok (.ishr, 1) := by decide +kernel
theorem dX8_sumOf_21 : decode cX8_sumOf 21 = .ok (.iconst 1, 1) := by decide +kernel
theorem dX8_sumOf_22 : decode cX8_sumOf 22 = .ok (.iand, 1) := by decide +kernel
theorem dX8_sumOf_23 : decode cX8_sumOf 23 = .ok (.iconst 1, 1) := by decide +kernel
theorem dX8_sumOf_24 : decode cX8_sumOf 24 = .ok (.if_icmp .ne 7, 3) := by decide +kernel
theorem dX8_sumOf_27 : decode cX8_sumOf 27 = .ok (.iconst 1, 1) := by decide +kernel
theorem dX8_sumOf_28 : decode cX8_sumOf 28 = .ok (.goto 4, 3) := by decide +kernel
theorem dX8_sumOf_31 : decode cX8_sumOf 31 = .ok (.iconst 0, 1) := by decide +kernel
theorem dX8_sumOf_32 : decode cX8_sumOf 32 = .ok (.istore_n 3, 1) := by decide +kernel
theorem dX8_sumOf_33 : decode cX8_sumOf 33 = .ok (.aload_n 0, 1) := by decide +kernel
theorem dX8_sumOf_34 : decode cX8_sumOf 34 = .ok (.getfield 34, 3) := by decide +kernel
theorem dX8_sumOf_37 : decode cX8_sumOf 37 = .ok (.sipush 128, 3) := by decide +kernel
theorem dX8_sumOf_40 : decode cX8_sumOf 40 = .ok (.iload_n 2, 1) := by decide +kernel
theorem dX8_sumOf_41 : decode cX8_sumOf 41 = .ok (.imul, 1) := by decide +kernel
theorem dX8_sumOf_42 : decode cX8_sumOf 42 = .ok (.aload_n 0, 1) := by decide +kernel
theorem dX8_sumOf_43 : decode cX8_sumOf 43 = .ok (.getfield 52, 3) := by decide +kernel
theorem dX8_sumOf_46 : decode cX8_sumOf 46 = .ok (.iload_n 2, 1) := by decide +kernel
theorem dX8_sumOf_47 : decode cX8_sumOf 47 = .ok (.iaload, 1) := by decide +kernel
theorem dX8_sumOf_48 : decode cX8_sumOf 48 = .ok (.iadd, 1) := by decide +kernel
theorem dX8_sumOf_49 : decode cX8_sumOf 49 = .ok (.iaload, 1) := by decide +kernel
theorem dX8_sumOf_50 : decode cX8_sumOf 50 = .ok (.istore 4, 2) := by decide +kernel
theorem dX8_sumOf_52 : decode cX8_sumOf 52 = .ok (.iload_n 3, 1) := by decide +kernel
theorem dX8_sumOf_53 : decode cX8_sumOf 53 = .ok (.ifCond .eq 22, 3) := by decide +kernel
theorem dX8_sumOf_56 : decode cX8_sumOf 56 = .ok (.iload 4, 2) := by decide +kernel
theorem dX8_sumOf_58 : decode cX8_sumOf 58 = .ok (.ldc 104, 2) := by decide +kernel
theorem dX8_sumOf_60 : decode cX8_sumOf 60 = .ok (.if_icmp .ne 8, 3) := by decide +kernel
theorem dX8_sumOf_63 : decode cX8_sumOf 63 = .ok (.ldc 104, 2) := by decide +kernel
theorem dX8_sumOf_65 : decode cX8_sumOf 65 = .ok (.goto 25, 3) := by decide +kernel
theorem dX8_sumOf_68 : decode cX8_sumOf 68 = .ok (.iload_n 1, 1) := by decide +kernel
theorem dX8_sumOf_69 : decode cX8_sumOf 69 = .ok (.iload 4, 2) := by decide +kernel
theorem dX8_sumOf_71 : decode cX8_sumOf 71 = .ok (.iadd, 1) := by decide +kernel
theorem dX8_sumOf_72 : decode cX8_sumOf 72 = .ok (.goto 18, 3) := by decide +kernel
theorem dX8_sumOf_75 : decode cX8_sumOf 75 = .ok (.aload_n 0, 1) := by decide +kernel
theorem dX8_sumOf_76 : decode cX8_sumOf 76 = .ok (.getfield 52, 3) := by decide +kernel
theorem dX8_sumOf_79 : decode cX8_sumOf 79 = .ok (.iload_n 2, 1) := by decide +kernel
theorem dX8_sumOf_80 : decode cX8_sumOf 80 = .ok (.iaload, 1) := by decide +kernel
theorem dX8_sumOf_81 : decode cX8_sumOf 81 = .ok (.ifCond .ne 7, 3) := by decide +kernel
theorem dX8_sumOf_84 : decode cX8_sumOf 84 = .ok (.iload_n 1, 1) := by decide +kernel
theorem dX8_sumOf_85 : decode cX8_sumOf 85 = .ok (.goto 5, 3) := by decide +kernel
theorem dX8_sumOf_88 : decode cX8_sumOf 88 = .ok (.ldc 104, 2) := by decide +kernel
theorem dX8_sumOf_90 : decode cX8_sumOf 90 = .ok (.istore_n 1, 1) := by decide +kernel
theorem dX8_sumOf_91 : decode cX8_sumOf 91 = .ok (.iinc 2 1, 3) := by decide +kernel
theorem dX8_sumOf_94 : decode cX8_sumOf 94 = .ok (.goto (-90), 3) := by decide +kernel
theorem dX8_sumOf_97 : decode cX8_sumOf 97 = .ok (.iload_n 1, 1) := by decide +kernel
theorem dX8_sumOf_98 : decode cX8_sumOf 98 = .ok (.ireturn, 1) := by decide +kernel
theorem dX8_layHome_0 : decode cX8_layHome 0 = .ok (.aload_n 0, 1) := by decide +kernel
theorem dX8_layHome_1 : decode cX8_layHome 1 = .ok (.aload_n 0, 1) := by decide +kernel
theorem dX8_layHome_2 : decode cX8_layHome 2 = .ok (.iload_n 1, 1) := by decide +kernel
theorem dX8_layHome_3 : decode cX8_layHome 3 = .ok (.invokevirtual 272, 3) := by decide +kernel
theorem dX8_layHome_6 : decode cX8_layHome 6 = .ok (.putfield 287, 3) := by decide +kernel
theorem dX8_layHome_9 : decode cX8_layHome 9 = .ok (.aload_n 0, 1) := by decide +kernel
theorem dX8_layHome_10 : decode cX8_layHome 10 = .ok (.invokevirtual 296, 3) := by decide +kernel
theorem dX8_layHome_13 : decode cX8_layHome 13 = .ok (.aload_n 0, 1) := by decide +kernel
theorem dX8_layHome_14 : decode cX8_layHome 14 = .ok (.invokevirtual 299, 3) := by decide +kernel
theorem dX8_layHome_17 : decode cX8_layHome 17 = .ok (.bipush 99, 2) := by decide +kernel
theorem dX8_layHome_19 : decode cX8_layHome 19 = .ok (.istore_n 2, 1) := by decide +kernel
theorem dX8_layHome_20 : decode cX8_layHome 20 = .ok (.aload_n 0, 1) := by decide +kernel
theorem dX8_layHome_21 : decode cX8_layHome 21 = .ok (.iconst 0, 1) := by decide +kernel
theorem dX8_layHome_22 : decode cX8_layHome 22 = .ok (.putfield 302, 3) := by decide +kernel
theorem dX8_layHome_25 : decode cX8_layHome 25 = .ok (.iconst 0, 1) := by decide +kernel
theorem dX8_layHome_26 : decode cX8_layHome 26 = .ok (.istore_n 3, 1) := by decide +kernel
theorem dX8_layHome_27 : decode cX8_layHome 27 = .ok (.iload_n 3, 1) := by decide +kernel
theorem dX8_layHome_28 : decode cX8_layHome 28 = .ok (.iconst 1, 1) := by decide +kernel
theorem dX8_layHome_29 : decode cX8_layHome 29 = .ok (.iconst 2, 1) := by decide +kernel
theorem dX8_layHome_30 : decode cX8_layHome 30 = .ok (.aload_n 0, 1) := by decide +kernel
theorem dX8_layHome_31 : decode cX8_layHome 31 = .ok (.getfield 284, 3) := by decide +kernel
theorem dX8_layHome_34 : decode cX8_layHome 34 = .ok (.imul, 1) := by decide +kernel
theorem dX8_layHome_35 : decode cX8_layHome 35 = .ok (.ishl, 1) := by decide +kernel
theorem dX8_layHome_36 : decode cX8_layHome 36 = .ok (.if_icmp .ge 107, 3) := by decide +kernel
theorem dX8_layHome_39 : decode cX8_layHome 39 = .ok (.aload_n 0, 1) := by decide +kernel
theorem dX8_layHome_40 : decode cX8_layHome 40 = .ok (.iload_n 3, 1) := by decide +kernel
theorem dX8_layHome_41 : decode cX8_layHome 41 = .ok (.invokevirtual 305, 3) := by decide +kernel
theorem dX8_layHome_44 : decode cX8_layHome 44 = .ok (.aload_n 0, 1) := by decide +kernel
theorem dX8_layHome_45 : decode cX8_layHome 45 = .ok (.invokevirtual 308, 3) := by decide +kernel
theorem dX8_layHome_48 : decode cX8_layHome 48 = .ok (.istore 4, 2) := by decide +kernel
theorem dX8_layHome_50 : decode cX8_layHome 50 = .ok (.aload_n 0, 1) := by decide +kernel
theorem dX8_layHome_51 : decode cX8_layHome 51 = .ok (.getfield 52, 3) := by decide +kernel
theorem dX8_layHome_54 : decode cX8_layHome 54 = .ok (.iconst 3, 1) := by decide +kernel
theorem dX8_layHome_55 : decode cX8_layHome 55 = .ok (.iaload, 1) := by decide +kernel
theorem dX8_layHome_56 : decode cX8_layHome 56 = .ok (.invokestatic 275, 3) := by decide +kernel
theorem dX8_layHome_59 : decode cX8_layHome 59 = .ok (.istore 5, 2) := by decide +kernel
theorem dX8_layHome_61 : decode cX8_layHome 61 = .ok (.iload 4, 2) := by decide +kernel
theorem dX8_layHome_63 : decode cX8_layHome 63 = .ok (.ldc 104, 2) := by decide +kernel
theorem dX8_layHome_65 : decode cX8_layHome 65 = .ok (.if_icmp .eq 72, 3) := by decide +kernel
theorem dX8_layHome_68 : decode cX8_layHome 68 = .ok (.iload 5, 2) := by decide +kernel
theorem dX8_layHome_70 : decode cX8_layHome 70 = .ok (.iload_n 2, 1) := by decide +kernel
theorem dX8_layHome_71 : decode cX8_layHome 71 = .ok (.if_icmp .lt 18, 3) := by decide +kernel
theorem dX8_layHome_74 : decode cX8_layHome 74 = .ok (.iload 5, 2) := by decide +kernel
theorem dX8_layHome_76 : decode cX8_layHome 76 = .ok (.iload_n 2, 1) := by decide +kernel
theorem dX8_layHome_77 : decode cX8_layHome 77 = .ok (.if_icmp .ne 60, 3) := by decide +kernel
theorem dX8_layHome_80 : decode cX8_layHome 80 = .ok (.iload 4, 2) := by decide +kernel
theorem dX8_layHome_82 : decode cX8_layHome 82 = .ok (.aload_n 0, 1) := by decide +kernel
theorem dX8_layHome_83 : decode cX8_layHome 83 = .ok (.getfield 302, 3) := by decide +kernel
theorem dX8_layHome_86 : decode cX8_layHome 86 = .ok (.if_icmp .ge 51, 3) := by decide +kernel
theorem dX8_layHome_89 : decode cX8_layHome 89 = .ok (.iload 5, 2) := by decide +kernel
theorem dX8_layHome_91 : decode cX8_layHome 91 = .ok (.istore_n 2, 1) := by decide +kernel
theorem dX8_layHome_92 : decode cX8_layHome 92 = .ok (.aload_n 0, 1) := by decide +kernel
theorem dX8_layHome_93 : decode cX8_layHome 93 = .ok (.iload 4, 2) := by decide +kernel
theorem dX8_layHome_95 : decode cX8_layHome 95 = .ok (.putfield 302, 3) := by decide +kernel
theorem dX8_layHome_98 : decode cX8_layHome 98 = .ok (.aload_n 0, 1) := by decide +kernel
theorem dX8_layHome_99 : decode cX8_layHome 99 = .ok (.aload_n 0, 1) := by decide +kernel
theorem dX8_layHome_100 : decode cX8_layHome 100 = .ok (.getfield 52, 3) := by decide +kernel
theorem dX8_layHome_103 : decode cX8_layHome 103 = .ok (.iconst 3, 1) := by decide +kernel
theorem dX8_layHome_104 : decode cX8_layHome 104 = .ok (.iaload, 1) := by decide +kernel
theorem dX8_layHome_105 : decode cX8_layHome 105 = .ok (.putfield 311, 3) := by decide +kernel
theorem dX8_layHome_108 : decode cX8_layHome 108 = .ok (.iconst 0, 1) := by decide +kernel
theorem dX8_layHome_109 : decode cX8_layHome 109 = .ok (.istore 6, 2) := by decide +kernel
theorem dX8_layHome_111 : decode cX8_layHome 111 = .ok (.iload 6, 2) := by decide +kernel
theorem dX8_layHome_113 : decode cX8_layHome 113 = .ok (.iconst 3, 1) := by decide +kernel
theorem dX8_layHome_114 : decode cX8_layHome 114 = .ok (.if_icmp .ge 23, 3) := by decide +kernel
theorem dX8_layHome_117 : decode cX8_layHome 117 = .ok (.aload_n 0, 1) := by decide +kernel
theorem dX8_layHome_118 : decode cX8_layHome 118 = .ok (.getfield 46, 3) := by decide +kernel
theorem dX8_layHome_121 : decode cX8_layHome 121 = .ok (.iload 6, 2) := by decide +kernel
theorem dX8_layHome_123 : decode cX8_layHome 123 = .ok (.aload_n 0, 1) := by decide +kernel
theorem dX8_layHome_124 : decode cX8_layHome 124 = .ok (.getfield 52, 3) := by decide +kernel
theorem dX8_layHome_127 : decode cX8_layHome 127 = .ok (.iload 6, 2) := by decide +kernel
theorem dX8_layHome_129 : decode cX8_layHome 129 = .ok (.iaload, 1) := by decide +kernel
theorem dX8_layHome_130 : decode cX8_layHome 130 = .ok (.iastore, 1) := by decide +kernel
theorem dX8_layHome_131 : decode cX8_layHome 131 = .ok (.iinc 6 1, 3) := by decide +kernel
theorem dX8_layHome_134 : decode cX8_layHome 134 = .ok (.goto (-23), 3) := by decide +kernel
theorem dX8_layHome_137 : decode cX8_layHome 137 = .ok (.iinc 3 1, 3) := by decide +kernel
theorem dX8_layHome_140 : decode cX8_layHome 140 = .ok (.goto (-113), 3) := by decide +kernel
theorem dX8_layHome_143 : decode cX8_layHome 143 = .ok (.return_, 1) := by decide +kernel
theorem dX8_home_0 : decode cX8_home 0 = .ok (.aload_n 0, 1) := by decide +kernel
theorem dX8_home_1 : decode cX8_home 1 = .ok (.iconst 0, 1) := by decide +kernel
theorem dX8_home_2 : decode cX8_home 2 = .ok (.putfield 68, 3) := by decide +kernel
theorem dX8_home_5 : decode cX8_home 5 = .ok (.aload_n 0, 1) := by decide +kernel
theorem dX8_home_6 : decode cX8_home 6 = .ok (.getfield 217, 3) := by decide +kernel
theorem dX8_home_9 : decode cX8_home 9 = .ok (.ifCond .ne 6, 3) := by decide +kernel
theorem dX8_home_12 : decode cX8_home 12 = .ok (.ldc 240, 2) := by decide +kernel
theorem dX8_home_14 : decode cX8_home 14 = .ok (.ireturn, 1) := by decide +kernel
theorem dX8_home_15 : decode cX8_home 15 = .ok (.iload_n 1, 1) := by decide +kernel
theorem dX8_home_16 : decode cX8_home 16 = .ok (.invokestatic 255, 3) := by decide +kernel
theorem dX8_home_19 : decode cX8_home 19 = .ok (.ifCond .eq 21, 3) := by decide +kernel
theorem dX8_home_22 : decode cX8_home 22 = .ok (.iload_n 2, 1) := by decide +kernel
theorem dX8_home_23 : decode cX8_home 23 = .ok (.i2l, 1) := by decide +kernel
theorem dX8_home_24 : decode cX8_home 24 = .ok (.lconst 0, 1) := by decide +kernel
theorem dX8_home_25 : decode cX8_home 25 = .ok (.iconst 2, 1) := by decide +kernel
theorem dX8_home_26 : decode cX8_home 26 = .ok (.aload_n 0, 1) := by decide +kernel
theorem dX8_home_27 : decode cX8_home 27 = .ok (.getfield 19, 3) := by decide +kernel
theorem dX8_home_30 : decode cX8_home 30 = .ok (.iconst 5, 1) := by decide +kernel
theorem dX8_home_31 : decode cX8_home 31 = .ok (.iaload, 1) := by decide +kernel
theorem dX8_home_32 : decode cX8_home 32 = .ok (.iadd, 1) := by decide +kernel
theorem dX8_home_33 : decode cX8_home 33 = .ok (.i2l, 1) := by decide +kernel
theorem dX8_home_34 : decode cX8_home 34 = .ok (.invokestatic 78, 3) := by decide +kernel
theorem dX8_home_37 : decode cX8_home 37 = .ok (.ifCond .ne 6, 3) := by decide +kernel
theorem dX8_home_40 : decode cX8_home 40 = .ok (.ldc 88, 2) := by decide +kernel
theorem dX8_home_42 : decode cX8_home 42 = .ok (.ireturn, 1) := by decide +kernel
theorem dX8_home_43 : decode cX8_home 43 = .ok (.aload_n 0, 1) := by decide +kernel
theorem dX8_home_44 : decode cX8_home 44 = .ok (.iload_n 1, 1) := by decide +kernel
theorem dX8_home_45 : decode cX8_home 45 = .ok (.invokevirtual 314, 3) := by decide +kernel
theorem dX8_home_48 : decode cX8_home 48 = .ok (.iload_n 2, 1) := by decide +kernel
theorem dX8_home_49 : decode cX8_home 49 = .ok (.ifCond .ne 13, 3) := by decide +kernel
theorem dX8_home_52 : decode cX8_home 52 = .ok (.aload_n 0, 1) := by decide +kernel
theorem dX8_home_53 : decode cX8_home 53 = .ok (.getfield 311, 3) := by decide +kernel
theorem dX8_home_56 : decode cX8_home 56 = .ok (.invokestatic 275, 3) := by decide +kernel
theorem dX8_home_59 : decode cX8_home 59 = .ok (.goto 35, 3) := by decide +kernel
theorem dX8_home_62 : decode cX8_home 62 = .ok (.iload_n 2, 1) := by decide +kernel
theorem dX8_home_63 : decode cX8_home 63 = .ok (.iconst 1, 1) := by decide +kernel
theorem dX8_home_64 : decode cX8_home 64 = .ok (.if_icmp .ne 10, 3) := by decide +kernel
theorem dX8_home_67 : decode cX8_home 67 = .ok (.aload_n 0, 1) := by decide +kernel
theorem dX8_home_68 : decode cX8_home 68 = .ok (.getfield 302, 3) := by decide +kernel
theorem dX8_home_71 : decode cX8_home 71 = .ok (.goto 23, 3) := by decide +kernel
theorem dX8_home_74 : decode cX8_home 74 = .ok (.iload_n 2, 1) := by decide +kernel
theorem dX8_home_75 : decode cX8_home 75 = .ok (.iconst 2, 1) := by decide +kernel
theorem dX8_home_76 : decode cX8_home 76 = .ok (.if_icmp .ne 10, 3) := by decide +kernel
theorem dX8_home_79 : decode cX8_home 79 = .ok (.aload_n 0, 1) := by decide +kernel
theorem dX8_home_80 : decode cX8_home 80 = .ok (.getfield 311, 3) := by decide +kernel
theorem dX8_home_83 : decode cX8_home 83 = .ok (.goto 11, 3) := by decide +kernel
theorem dX8_home_86 : decode cX8_home 86 = .ok (.aload_n 0, 1) := by decide +kernel
theorem dX8_home_87 : decode cX8_home 87 = .ok (.getfield 46, 3) := by decide +kernel
theorem dX8_home_90 : decode cX8_home 90 = .ok (.iload_n 2, 1) := by decide +kernel
theorem dX8_home_91 : decode cX8_home 91 = .ok (.iconst 3, 1) := by decide +kernel
theorem dX8_home_92 : decode cX8_home 92 = .ok (.isub, 1) := by decide +kernel
theorem dX8_home_93 : decode cX8_home 93 = .ok (.iaload, 1) := by decide +kernel
theorem dX8_home_94 : decode cX8_home 94 = .ok (.ireturn, 1) := by decide +kernel
theorem dX8_order_0 : decode cX8_order 0 = .ok (.aload_n 0, 1) := by decide +kernel
theorem dX8_order_1 : decode cX8_order 1 = .ok (.iconst 0, 1) := by decide +kernel
theorem dX8_order_2 : decode cX8_order 2 = .ok (.putfield 68, 3) := by decide +kernel
theorem dX8_order_5 : decode cX8_order 5 = .ok (.iload_n 1, 1) := by decide +kernel
theorem dX8_order_6 : decode cX8_order 6 = .ok (.invokestatic 255, 3) := by decide +kernel
theorem dX8_order_9 : decode cX8_order 9 = .ok (.ifCond .eq 16, 3) := by decide +kernel
theorem dX8_order_12 : decode cX8_order 12 = .ok (.aload_n 0, 1) := by decide +kernel
theorem dX8_order_13 : decode cX8_order 13 = .ok (.iload_n 2, 1) := by decide +kernel
theorem dX8_order_14 : decode cX8_order 14 = .ok (.invokevirtual 246, 3) := by decide +kernel
theorem dX8_order_17 : decode cX8_order 17 = .ok (.ifCond .eq 8, 3) := by decide +kernel
theorem dX8_order_20 : decode cX8_order 20 = .ok (.iload_n 3, 1) := by decide +kernel
theorem dX8_order_21 : decode cX8_order 21 = .ok (.iconst (-1), 1) := by decide +kernel
theorem dX8_order_22 : decode cX8_order 22 = .ok (.if_icmp .ge 6, 3) := by decide +kernel
theorem dX8_order_25 : decode cX8_order 25 = .ok (.ldc 88, 2) := by decide +kernel
theorem dX8_order_27 : decode cX8_order 27 = .ok (.ireturn, 1) := by decide +kernel
theorem dX8_order_28 : decode cX8_order 28 = .ok (.aload_n 0, 1) := by decide +kernel
theorem dX8_order_29 : decode cX8_order 29 = .ok (.iload_n 1, 1) := by decide +kernel
theorem dX8_order_30 : decode cX8_order 30 = .ok (.invokevirtual 314, 3) := by decide +kernel
theorem dX8_order_33 : decode cX8_order 33 = .ok (.aload_n 0, 1) := by decide +kernel
theorem dX8_order_34 : decode cX8_order 34 = .ok (.getfield 287, 3) := by decide +kernel
theorem dX8_order_37 : decode cX8_order 37 = .ok (.iload_n 2, 1) := by decide +kernel
theorem dX8_order_38 : decode cX8_order 38 = .ok (.ishr, 1) := by decide +kernel
theorem dX8_order_39 : decode cX8_order 39 = .ok (.iconst 1, 1) := by decide +kernel
theorem dX8_order_40 : decode cX8_order 40 = .ok (.iand, 1) := by decide +kernel
theorem dX8_order_41 : decode cX8_order 41 = .ok (.ifCond .ne 6, 3) := by decide +kernel
theorem dX8_order_44 : decode cX8_order 44 = .ok (.ldc 104, 2) := by decide +kernel
theorem dX8_order_46 : decode cX8_order 46 = .ok (.ireturn, 1) := by decide +kernel
theorem dX8_order_47 : decode cX8_order 47 = .ok (.aload_n 0, 1) := by decide +kernel
theorem dX8_order_48 : decode cX8_order 48 = .ok (.iload_n 2, 1) := by decide +kernel
theorem dX8_order_49 : decode cX8_order 49 = .ok (.aload_n 0, 1) := by decide +kernel
theorem dX8_order_50 : decode cX8_order 50 = .ok (.getfield 46, 3) := by decide +kernel
theorem dX8_order_53 : decode cX8_order 53 = .ok (.iload_n 2, 1) := by decide +kernel
theorem dX8_order_54 : decode cX8_order 54 = .ok (.iaload, 1) := by decide +kernel
theorem dX8_order_55 : decode cX8_order 55 = .ok (.invokevirtual 293, 3) := by decide +kernel
theorem dX8_order_58 : decode cX8_order 58 = .ok (.istore 4, 2) := by decide +kernel
theorem dX8_order_60 : decode cX8_order 60 = .ok (.iload_n 3, 1) := by decide +kernel
theorem dX8_order_61 : decode cX8_order 61 = .ok (.ifCond .ge 8, 3) := by decide +kernel
theorem dX8_order_64 : decode cX8_order 64 = .ok (.iload 4, 2) := by decide +kernel
theorem dX8_order_66 : decode cX8_order 66 = .ok (.goto 27, 3) := by decide +kernel
theorem dX8_order_69 : decode cX8_order 69 = .ok (.iload_n 3, 1) := by decide +kernel
theorem dX8_order_70 : decode cX8_order 70 = .ok (.aload_n 0, 1) := by decide +kernel
theorem dX8_order_71 : decode cX8_order 71 = .ok (.getfield 46, 3) := by decide +kernel
theorem dX8_order_74 : decode cX8_order 74 = .ok (.iload_n 2, 1) := by decide +kernel
theorem dX8_order_75 : decode cX8_order 75 = .ok (.iaload, 1) := by decide +kernel
theorem dX8_order_76 : decode cX8_order 76 = .ok (.invokestatic 275, 3) := by decide +kernel
theorem dX8_order_79 : decode cX8_order 79 = .ok (.if_icmp .ge 12, 3) := by decide +kernel
theorem dX8_order_82 : decode cX8_order 82 = .ok (.aload_n 0, 1) := by decide +kernel
theorem dX8_order_83 : decode cX8_order 83 = .ok (.getfield 43, 3) := by decide +kernel
theorem dX8_order_86 : decode cX8_order 86 = .ok (.iload_n 3, 1) := by decide +kernel
theorem dX8_order_87 : decode cX8_order 87 = .ok (.iaload, 1) := by decide +kernel
theorem dX8_order_88 : decode cX8_order 88 = .ok (.goto 5, 3) := by decide +kernel
theorem dX8_order_91 : decode cX8_order 91 = .ok (.ldc 104, 2) := by decide +kernel
theorem dX8_order_93 : decode cX8_order 93 = .ok (.ireturn, 1) := by decide +kernel
theorem dX8_detour_0 : decode cX8_detour 0 = .ok (.aload_n 0, 1) := by decide +kernel
theorem dX8_detour_1 : decode cX8_detour 1 = .ok (.iconst 0, 1) := by decide +kernel
theorem dX8_detour_2 : decode cX8_detour 2 = .ok (.putfield 68, 3) := by decide +kernel
theorem dX8_detour_5 : decode cX8_detour 5 = .ok (.iload_n 1, 1) := by decide +kernel
theorem dX8_detour_6 : decode cX8_detour 6 = .ok (.invokestatic 255, 3) := by decide +kernel
theorem dX8_detour_9 : decode cX8_detour 9 = .ok (.ifCond .eq 11, 3) := by decide +kernel
theorem dX8_detour_12 : decode cX8_detour 12 = .ok (.aload_n 0, 1) := by decide +kernel
theorem dX8_detour_13 : decode cX8_detour 13 = .ok (.iload_n 2, 1) := by decide +kernel
theorem dX8_detour_14 : decode cX8_detour 14 = .ok (.invokevirtual 232, 3) := by decide +kernel
theorem dX8_detour_17 : decode cX8_detour 17 = .ok (.ifCond .ne 6, 3) := by decide +kernel
theorem dX8_detour_20 : decode cX8_detour 20 = .ok (.ldc 88, 2) := by decide +kernel
theorem dX8_detour_22 : decode cX8_detour 22 = .ok (.ireturn, 1) := by decide +kernel
theorem dX8_detour_23 : decode cX8_detour 23 = .ok (.aload_n 0, 1) := by decide +kernel
theorem dX8_detour_24 : decode cX8_detour 24 = .ok (.iload_n 1, 1) := by decide +kernel
theorem dX8_detour_25 : decode cX8_detour 25 = .ok (.invokevirtual 314, 3) := by decide +kernel
theorem dX8_detour_28 : decode cX8_detour 28 = .ok (.iconst 0, 1) := by decide +kernel
theorem dX8_detour_29 : decode cX8_detour 29 = .ok (.istore_n 3, 1) := by decide +kernel
theorem dX8_detour_30 : decode cX8_detour 30 = .ok (.iload_n 3, 1) := by decide +kernel
theorem dX8_detour_31 : decode cX8_detour 31 = .ok (.aload_n 0, 1) := by decide +kernel
theorem dX8_detour_32 : decode cX8_detour 32 = .ok (.getfield 19, 3) := by decide +kernel
theorem dX8_detour_35 : decode cX8_detour 35 = .ok (.iconst 5, 1) := by decide +kernel
theorem dX8_detour_36 : decode cX8_detour 36 = .ok (.iaload, 1) := by decide +kernel
theorem dX8_detour_37 : decode cX8_detour 37 = .ok (.if_icmp .ge 59, 3) := by decide +kernel
theorem dX8_detour_40 : decode cX8_detour 40 = .ok (.aload_n 0, 1) := by decide +kernel
theorem dX8_detour_41 : decode cX8_detour 41 = .ok (.getfield 46, 3) := by decide +kernel
theorem dX8_detour_44 : decode cX8_detour 44 = .ok (.iload_n 3, 1) := by decide +kernel
theorem dX8_detour_45 : decode cX8_detour 45 = .ok (.iaload, 1) := by decide +kernel
theorem dX8_detour_46 : decode cX8_detour 46 = .ok (.iload_n 2, 1) := by decide +kernel
theorem dX8_detour_47 : decode cX8_detour 47 = .ok (.ishr, 1) := by decide +kernel
theorem dX8_detour_48 : decode cX8_detour 48 = .ok (.iconst 1, 1) := by decide +kernel
theorem dX8_detour_49 : decode cX8_detour 49 = .ok (.iand, 1) := by decide +kernel
theorem dX8_detour_50 : decode cX8_detour 50 = .ok (.iconst 1, 1) := by decide +kernel
theorem dX8_detour_51 : decode cX8_detour 51 = .ok (.if_icmp .ne 39, 3) := by decide +kernel
theorem dX8_detour_54 : decode cX8_detour 54 = .ok (.aload_n 0, 1) := by decide +kernel
theorem dX8_detour_55 : decode cX8_detour 55 = .ok (.getfield 34, 3) := by decide +kernel
theorem dX8_detour_58 : decode cX8_detour 58 = .ok (.sipush 128, 3) := by decide +kernel
theorem dX8_detour_61 : decode cX8_detour 61 = .ok (.iload_n 3, 1) := by decide +kernel
theorem dX8_detour_62 : decode cX8_detour 62 = .ok (.imul, 1) := by decide +kernel
theorem dX8_detour_63 : decode cX8_detour 63 = .ok (.aload_n 0, 1) := by decide +kernel
theorem dX8_detour_64 : decode cX8_detour 64 = .ok (.getfield 46, 3) := by decide +kernel
theorem dX8_detour_67 : decode cX8_detour 67 = .ok (.iload_n 3, 1) := by decide +kernel
theorem dX8_detour_68 : decode cX8_detour 68 = .ok (.iaload, 1) := by decide +kernel
theorem dX8_detour_69 : decode cX8_detour 69 = .ok (.iadd, 1) := by decide +kernel
theorem dX8_detour_70 : decode cX8_detour 70 = .ok (.iaload, 1) := by decide +kernel
theorem dX8_detour_71 : decode cX8_detour 71 = .ok (.aload_n 0, 1) := by decide +kernel
theorem dX8_detour_72 : decode cX8_detour 72 = .ok (.iload_n 3, 1) := by decide +kernel
theorem dX8_detour_73 : decode cX8_detour 73 = .ok (.aload_n 0, 1) := by decide +kernel
theorem dX8_detour_74 : decode cX8_detour 74 = .ok (.getfield 46, 3) := by decide +kernel
theorem dX8_detour_77 : decode cX8_detour 77 = .ok (.iload_n 3, 1) := by decide +kernel
theorem dX8_detour_78 : decode cX8_detour 78 = .ok (.iaload, 1) := by decide +kernel
theorem dX8_detour_79 : decode cX8_detour 79 = .ok (.iconst 1, 1) := by decide +kernel
theorem dX8_detour_80 : decode cX8_detour 80 = .ok (.iload_n 2, 1) := by decide +kernel
theorem dX8_detour_81 : decode cX8_detour 81 = .ok (.ishl, 1) := by decide +kernel
theorem dX8_detour_82 : decode cX8_detour 82 = .ok (.iconst (-1), 1) := by decide +kernel
theorem dX8_detour_83 : decode cX8_detour 83 = .ok (.ixor, 1) := by decide +kernel
theorem dX8_detour_84 : decode cX8_detour 84 = .ok (.iand, 1) := by decide +kernel
theorem dX8_detour_85 : decode cX8_detour 85 = .ok (.invokevirtual 293, 3) := by decide +kernel
theorem dX8_detour_88 : decode cX8_detour 88 = .ok (.isub, 1) := by decide +kernel
theorem dX8_detour_89 : decode cX8_detour 89 = .ok (.ireturn, 1) := by decide +kernel
theorem dX8_detour_90 : decode cX8_detour 90 = .ok (.iinc 3 1, 3) := by decide +kernel
theorem dX8_detour_93 : decode cX8_detour 93 = .ok (.goto (-63), 3) := by decide +kernel
theorem dX8_detour_96 : decode cX8_detour 96 = .ok (.ldc 104, 2) := by decide +kernel
theorem dX8_detour_98 : decode cX8_detour 98 = .ok (.ireturn, 1) := by decide +kernel
theorem dX8_fetch_0 : decode cX8_fetch 0 = .ok (.aload_n 0, 1) := by decide +kernel
theorem dX8_fetch_1 : decode cX8_fetch 1 = .ok (.iconst 0, 1) := by decide +kernel
theorem dX8_fetch_2 : decode cX8_fetch 2 = .ok (.putfield 68, 3) := by decide +kernel
theorem dX8_fetch_5 : decode cX8_fetch 5 = .ok (.aload_n 0, 1) := by decide +kernel
theorem dX8_fetch_6 : decode cX8_fetch 6 = .ok (.getfield 217, 3) := by decide +kernel
theorem dX8_fetch_9 : decode cX8_fetch 9 = .ok (.ifCond .ne 6, 3) := by decide +kernel
theorem dX8_fetch_12 : decode cX8_fetch 12 = .ok (.ldc 240, 2) := by decide +kernel
theorem dX8_fetch_14 : decode cX8_fetch 14 = .ok (.ireturn, 1) := by decide +kernel
theorem dX8_fetch_15 : decode cX8_fetch 15 = .ok (.iload_n 1, 1) := by decide +kernel
theorem dX8_fetch_16 : decode cX8_fetch 16 = .ok (.invokestatic 255, 3) := by decide +kernel
theorem dX8_fetch_19 : decode cX8_fetch 19 = .ok (.ifCond .ne 6, 3) := by decide +kernel
theorem dX8_fetch_22 : decode cX8_fetch 22 = .ok (.ldc 88, 2) := by decide +kernel
theorem dX8_fetch_24 : decode cX8_fetch 24 = .ok (.ireturn, 1) := by decide +kernel
theorem dX8_fetch_25 : decode cX8_fetch 25 = .ok (.aload_n 0, 1) := by decide +kernel
theorem dX8_fetch_26 : decode cX8_fetch 26 = .ok (.iload_n 1, 1) := by decide +kernel
theorem dX8_fetch_27 : decode cX8_fetch 27 = .ok (.invokevirtual 272, 3) := by decide +kernel
theorem dX8_fetch_30 : decode cX8_fetch 30 = .ok (.istore_n 2, 1) := by decide +kernel
theorem dX8_fetch_31 : decode cX8_fetch 31 = .ok (.aload_n 0, 1) := by decide +kernel
theorem dX8_fetch_32 : decode cX8_fetch 32 = .ok (.getfield 19, 3) := by decide +kernel
theorem dX8_fetch_35 : decode cX8_fetch 35 = .ok (.iconst 5, 1) := by decide +kernel
theorem dX8_fetch_36 : decode cX8_fetch 36 = .ok (.iaload, 1) := by decide +kernel
theorem dX8_fetch_37 : decode cX8_fetch 37 = .ok (.iload_n 2, 1) := by decide +kernel
theorem dX8_fetch_38 : decode cX8_fetch 38 = .ok (.invokestatic 275, 3) := by decide +kernel
theorem dX8_fetch_41 : decode cX8_fetch 41 = .ok (.isub, 1) := by decide +kernel
theorem dX8_fetch_42 : decode cX8_fetch 42 = .ok (.istore_n 3, 1) := by decide +kernel
theorem dX8_fetch_43 : decode cX8_fetch 43 = .ok (.iconst 0, 1) := by decide +kernel
theorem dX8_fetch_44 : decode cX8_fetch 44 = .ok (.istore 4, 2) := by decide +kernel
theorem dX8_fetch_46 : decode cX8_fetch 46 = .ok (.iconst 0, 1) := by decide +kernel
theorem dX8_fetch_47 : decode cX8_fetch 47 = .ok (.istore 5, 2) := by decide +kernel
theorem dX8_fetch_49 : decode cX8_fetch 49 = .ok (.iload 5, 2) := by decide +kernel
theorem dX8_fetch_51 : decode cX8_fetch 51 = .ok (.aload_n 0, 1) := by decide +kernel
theorem dX8_fetch_52 : decode cX8_fetch 52 = .ok (.getfield 19, 3) := by decide +kernel
theorem dX8_fetch_55 : decode cX8_fetch 55 = .ok (.iconst 5, 1) := by decide +kernel
theorem dX8_fetch_56 : decode cX8_fetch 56 = .ok (.iaload, 1) := by decide +kernel
theorem dX8_fetch_57 : decode cX8_fetch 57 = .ok (.if_icmp .ge 45, 3) := by decide +kernel
theorem dX8_fetch_60 : decode cX8_fetch 60 = .ok (.iload_n 2, 1) := by decide +kernel
theorem dX8_fetch_61 : decode cX8_fetch 61 = .ok (.iload 5, 2) := by decide +kernel
theorem dX8_fetch_63 : decode cX8_fetch 63 = .ok (.ishr, 1) := by decide +kernel
theorem dX8_fetch_64 : decode cX8_fetch 64 = .ok (.iconst 1, 1) := by decide +kernel
theorem dX8_fetch_65 : decode cX8_fetch 65 = .ok (.iand, 1) := by decide +kernel
theorem dX8_fetch_66 : decode cX8_fetch 66 = .ok (.iconst 1, 1) := by decide +kernel
theorem dX8_fetch_67 : decode cX8_fetch 67 = .ok (.if_icmp .ne 25, 3) := by decide +kernel
theorem dX8_fetch_70 : decode cX8_fetch 70 = .ok (.aload_n 0, 1) := by decide +kernel
theorem dX8_fetch_71 : decode cX8_fetch 71 = .ok (.iload 5, 2) := by decide +kernel
theorem dX8_fetch_73 : decode cX8_fetch 73 = .ok (.iconst 1, 1) := by decide +kernel
theorem dX8_fetch_74 : decode cX8_fetch 74 = .ok (.invokevirtual 229, 3) := by decide +kernel
theorem dX8_fetch_77 : decode cX8_fetch 77 = .ok (.iload 4, 2) := by decide +kernel
theorem dX8_fetch_79 : decode cX8_fetch 79 = .ok (.if_icmp .le 13, 3) := by decide +kernel
theorem dX8_fetch_82 : decode cX8_fetch 82 = .ok (.aload_n 0, 1) := by decide +kernel
theorem dX8_fetch_83 : decode cX8_fetch 83 = .ok (.iload 5, 2) := by decide +kernel
theorem dX8_fetch_85 : decode cX8_fetch 85 = .ok (.iconst 1, 1) := by decide +kernel
theorem dX8_fetch_86 : decode cX8_fetch 86 = .ok (.invokevirtual 229, 3) := by decide +kernel
theorem dX8_fetch_89 : decode cX8_fetch 89 = .ok (.goto 5, 3) := by decide +kernel
theorem dX8_fetch_92 : decode cX8_fetch 92 = .ok (.iload 4, 2) := by decide +kernel
theorem dX8_fetch_94 : decode cX8_fetch 94 = .ok (.istore 4, 2) := by decide +kernel
theorem dX8_fetch_96 : decode cX8_fetch 96 = .ok (.iinc 5 1, 3) := by decide +kernel
theorem dX8_fetch_99 : decode cX8_fetch 99 = .ok (.goto (-50), 3) := by decide +kernel
theorem dX8_fetch_102 : decode cX8_fetch 102 = .ok (.iconst (-1), 1) := by decide +kernel
theorem dX8_fetch_103 : decode cX8_fetch 103 = .ok (.istore 5, 2) := by decide +kernel
theorem dX8_fetch_105 : decode cX8_fetch 105 = .ok (.iconst 0, 1) := by decide +kernel
theorem dX8_fetch_106 : decode cX8_fetch 106 = .ok (.istore 6, 2) := by decide +kernel
theorem dX8_fetch_108 : decode cX8_fetch 108 = .ok (.iload 6, 2) := by decide +kernel
theorem dX8_fetch_110 : decode cX8_fetch 110 = .ok (.aload_n 0, 1) := by decide +kernel
theorem dX8_fetch_111 : decode cX8_fetch 111 = .ok (.getfield 19, 3) := by decide +kernel
theorem dX8_fetch_114 : decode cX8_fetch 114 = .ok (.iconst 4, 1) := by decide +kernel
theorem dX8_fetch_115 : decode cX8_fetch 115 = .ok (.iaload, 1) := by decide +kernel
theorem dX8_fetch_116 : decode cX8_fetch 116 = .ok (.if_icmp .ge 30, 3) := by decide +kernel
theorem dX8_fetch_119 : decode cX8_fetch 119 = .ok (.iload 5, 2) := by decide +kernel
theorem dX8_fetch_121 : decode cX8_fetch 121 = .ok (.aload_n 0, 1) := by decide +kernel
theorem dX8_fetch_122 : decode cX8_fetch 122 = .ok (.iload 6, 2) := by decide +kernel
theorem dX8_fetch_124 : decode cX8_fetch 124 = .ok (.iconst 0, 1) := by decide +kernel
theorem dX8_fetch_125 : decode cX8_fetch 125 = .ok (.invokevirtual 237, 3) := by decide +kernel
theorem dX8_fetch_128 : decode cX8_fetch 128 = .ok (.iconst 5, 1) := by decide +kernel
theorem dX8_fetch_129 : decode cX8_fetch 129 = .ok (.if_icmp .ne 7, 3) := by decide +kernel
theorem dX8_fetch_132 : decode cX8_fetch 132 = .ok (.iconst 0, 1) := by decide +kernel
theorem dX8_fetch_133 : decode cX8_fetch 133 = .ok (.goto 4, 3) := by decide +kernel
theorem dX8_fetch_136 : decode cX8_fetch 136 = .ok (.iconst 1, 1) := by decide +kernel
theorem dX8_fetch_137 : decode cX8_fetch 137 = .ok (.iadd, 1) := by decide +kernel
theorem dX8_fetch_138 : decode cX8_fetch 138 = .ok (.istore 5, 2) := by decide +kernel
theorem dX8_fetch_140 : decode cX8_fetch 140 = .ok (.iinc 6 1, 3) := by decide +kernel
theorem dX8_fetch_143 : decode cX8_fetch 143 = .ok (.goto (-35), 3) := by decide +kernel
theorem dX8_fetch_146 : decode cX8_fetch 146 = .ok (.iload 4, 2) := by decide +kernel
theorem dX8_fetch_148 : decode cX8_fetch 148 = .ok (.iload 5, 2) := by decide +kernel
theorem dX8_fetch_150 : decode cX8_fetch 150 = .ok (.if_icmp .ge 8, 3) := by decide +kernel
theorem dX8_fetch_153 : decode cX8_fetch 153 = .ok (.iload 4, 2) := by decide +kernel
theorem dX8_fetch_155 : decode cX8_fetch 155 = .ok (.goto 5, 3) := by decide +kernel
theorem dX8_fetch_158 : decode cX8_fetch 158 = .ok (.iload 5, 2) := by decide +kernel
theorem dX8_fetch_160 : decode cX8_fetch 160 = .ok (.istore 6, 2) := by decide +kernel
theorem dX8_fetch_162 : decode cX8_fetch 162 = .ok (.iload_n 3, 1) := by decide +kernel
theorem dX8_fetch_163 : decode cX8_fetch 163 = .ok (.ifCond .ne 7, 3) := by decide +kernel
theorem dX8_fetch_166 : decode cX8_fetch 166 = .ok (.iconst 0, 1) := by decide +kernel
theorem dX8_fetch_167 : decode cX8_fetch 167 = .ok (.goto 23, 3) := by decide +kernel
theorem dX8_fetch_170 : decode cX8_fetch 170 = .ok (.iload 6, 2) := by decide +kernel
theorem dX8_fetch_172 : decode cX8_fetch 172 = .ok (.iconst 1, 1) := by decide +kernel
theorem dX8_fetch_173 : decode cX8_fetch 173 = .ok (.if_icmp .ge 8, 3) := by decide +kernel
theorem dX8_fetch_176 : decode cX8_fetch 176 = .ok (.ldc 104, 2) := by decide +kernel
theorem dX8_fetch_178 : decode cX8_fetch 178 = .ok (.goto 12, 3) := by decide +kernel
theorem dX8_fetch_181 : decode cX8_fetch 181 = .ok (.iload_n 3, 1) := by decide +kernel
theorem dX8_fetch_182 : decode cX8_fetch 182 = .ok (.iload 6, 2) := by decide +kernel
theorem dX8_fetch_184 : decode cX8_fetch 184 = .ok (.iadd, 1) := by decide +kernel
theorem dX8_fetch_185 : decode cX8_fetch 185 = .ok (.iconst 1, 1) := by decide +kernel
theorem dX8_fetch_186 : decode cX8_fetch 186 = .ok (.isub, 1) := by decide +kernel
theorem dX8_fetch_187 : decode cX8_fetch 187 = .ok (.iload 6, 2) := by decide +kernel
theorem dX8_fetch_189 : decode cX8_fetch 189 = .ok (.idiv, 1) := by decide +kernel
theorem dX8_fetch_190 : decode cX8_fetch 190 = .ok (.ireturn, 1) := by decide +kernel
theorem dX8_allFar_0 : decode cX8_allFar 0 = .ok (.iconst 0, 1) := by decide +kernel
theorem dX8_allFar_1 : decode cX8_allFar 1 = .ok (.istore_n 2, 1) := by decide +kernel
theorem dX8_allFar_2 : decode cX8_allFar 2 = .ok (.iconst 0, 1) := by decide +kernel
theorem dX8_allFar_3 : decode cX8_allFar 3 = .ok (.istore_n 3, 1) := by decide +kernel
theorem dX8_allFar_4 : decode cX8_allFar 4 = .ok (.iload_n 3, 1) := by decide +kernel
theorem dX8_allFar_5 : decode cX8_allFar 5 = .ok (.aload_n 0, 1) := by decide +kernel
theorem dX8_allFar_6 : decode cX8_allFar 6 = .ok (.getfield 19, 3) := by decide +kernel
theorem dX8_allFar_9 : decode cX8_allFar 9 = .ok (.iconst 4, 1) := by decide +kernel
theorem dX8_allFar_10 : decode cX8_allFar 10 = .ok (.iaload, 1) := by decide +kernel
theorem dX8_allFar_11 : decode cX8_allFar 11 = .ok (.if_icmp .ge 23, 3) := by decide +kernel
theorem dX8_allFar_14 : decode cX8_allFar 14 = .ok (.iload_n 2, 1) := by decide +kernel
theorem dX8_allFar_15 : decode cX8_allFar 15 = .ok (.aload_n 0, 1) := by decide +kernel
theorem dX8_allFar_16 : decode cX8_allFar 16 = .ok (.iload_n 1, 1) := by decide +kernel
theorem dX8_allFar_17 : decode cX8_allFar 17 = .ok (.aload_n 0, 1) := by decide +kernel
theorem dX8_allFar_18 : decode cX8_allFar 18 = .ok (.iload_n 3, 1) := by decide +kernel
theorem dX8_allFar_19 : decode cX8_allFar 19 = .ok (.iconst 1, 1) := by decide +kernel
theorem dX8_allFar_20 : decode cX8_allFar 20 = .ok (.invokevirtual 237, 3) := by decide +kernel
theorem dX8_allFar_23 : decode cX8_allFar 23 = .ok (.invokevirtual 249, 3) := by decide +kernel
theorem dX8_allFar_26 : decode cX8_allFar 26 = .ok (.iadd, 1) := by decide +kernel
theorem dX8_allFar_27 : decode cX8_allFar 27 = .ok (.istore_n 2, 1) := by decide +kernel
theorem dX8_allFar_28 : decode cX8_allFar 28 = .ok (.iinc 3 1, 3) := by decide +kernel
theorem dX8_allFar_31 : decode cX8_allFar 31 = .ok (.goto (-27), 3) := by decide +kernel
theorem dX8_allFar_34 : decode cX8_allFar 34 = .ok (.iload_n 2, 1) := by decide +kernel
theorem dX8_allFar_35 : decode cX8_allFar 35 = .ok (.ireturn, 1) := by decide +kernel
theorem dX8_house_0 : decode cX8_house 0 = .ok (.aload_n 0, 1) := by decide +kernel
theorem dX8_house_1 : decode cX8_house 1 = .ok (.iconst 0, 1) := by decide +kernel
theorem dX8_house_2 : decode cX8_house 2 = .ok (.putfield 68, 3) := by decide +kernel
theorem dX8_house_5 : decode cX8_house 5 = .ok (.aload_n 0, 1) := by decide +kernel
theorem dX8_house_6 : decode cX8_house 6 = .ok (.getfield 217, 3) := by decide +kernel
theorem dX8_house_9 : decode cX8_house 9 = .ok (.ifCond .ne 6, 3) := by decide +kernel
theorem dX8_house_12 : decode cX8_house 12 = .ok (.ldc 240, 2) := by decide +kernel
theorem dX8_house_14 : decode cX8_house 14 = .ok (.ireturn, 1) := by decide +kernel
theorem dX8_house_15 : decode cX8_house 15 = .ok (.iload_n 1, 1) := by decide +kernel
theorem dX8_house_16 : decode cX8_house 16 = .ok (.i2l, 1) := by decide +kernel
theorem dX8_house_17 : decode cX8_house 17 = .ok (.lconst 0, 1) := by decide +kernel
theorem dX8_house_18 : decode cX8_house 18 = .ok (.lconst 1, 1) := by decide +kernel
theorem dX8_house_19 : decode cX8_house 19 = .ok (.invokestatic 78, 3) := by decide +kernel
theorem dX8_house_22 : decode cX8_house 22 = .ok (.ifCond .ne 6, 3) := by decide +kernel
theorem dX8_house_25 : decode cX8_house 25 = .ok (.ldc 88, 2) := by decide +kernel
theorem dX8_house_27 : decode cX8_house 27 = .ok (.ireturn, 1) := by decide +kernel
theorem dX8_house_28 : decode cX8_house 28 = .ok (.ldc 104, 2) := by decide +kernel
theorem dX8_house_30 : decode cX8_house 30 = .ok (.istore_n 2, 1) := by decide +kernel
theorem dX8_house_31 : decode cX8_house 31 = .ok (.sipush 10000, 3) := by decide +kernel
theorem dX8_house_34 : decode cX8_house 34 = .ok (.istore_n 3, 1) := by decide +kernel
theorem dX8_house_35 : decode cX8_house 35 = .ok (.iconst 0, 1) := by decide +kernel
theorem dX8_house_36 : decode cX8_house 36 = .ok (.istore 4, 2) := by decide +kernel
theorem dX8_house_38 : decode cX8_house 38 = .ok (.iload 4, 2) := by decide +kernel
theorem dX8_house_40 : decode cX8_house 40 = .ok (.aload_n 0, 1) := by decide +kernel
theorem dX8_house_41 : decode cX8_house 41 = .ok (.getfield 19, 3) := by decide +kernel
theorem dX8_house_44 : decode cX8_house 44 = .ok (.iconst 4, 1) := by decide +kernel
theorem dX8_house_45 : decode cX8_house 45 = .ok (.iaload, 1) := by decide +kernel
theorem dX8_house_46 : decode cX8_house 46 = .ok (.if_icmp .ge 48, 3) := by decide +kernel
theorem dX8_house_49 : decode cX8_house 49 = .ok (.aload_n 0, 1) := by decide +kernel
theorem dX8_house_50 : decode cX8_house 50 = .ok (.aload_n 0, 1) := by decide +kernel
theorem dX8_house_51 : decode cX8_house 51 = .ok (.iload 4, 2) := by decide +kernel
theorem dX8_house_53 : decode cX8_house 53 = .ok (.iconst 1, 1) := by decide +kernel
theorem dX8_house_54 : decode cX8_house 54 = .ok (.invokevirtual 237, 3) := by decide +kernel
theorem dX8_house_57 : decode cX8_house 57 = .ok (.invokevirtual 317, 3) := by decide +kernel
theorem dX8_house_60 : decode cX8_house 60 = .ok (.istore 5, 2) := by decide +kernel
theorem dX8_house_62 : decode cX8_house 62 = .ok (.iload 5, 2) := by decide +kernel
theorem dX8_house_64 : decode cX8_house 64 = .ok (.iload_n 3, 1) := by decide +kernel
theorem dX8_house_65 : decode cX8_house 65 = .ok (.if_icmp .ge 8, 3) := by decide +kernel
theorem dX8_house_68 : decode cX8_house 68 = .ok (.iload 4, 2) := by decide +kernel
theorem dX8_house_70 : decode cX8_house 70 = .ok (.goto 4, 3) := by decide +kernel
theorem dX8_house_73 : decode cX8_house 73 = .ok (.iload_n 2, 1) := by decide +kernel
theorem dX8_house_74 : decode cX8_house 74 = .ok (.istore_n 2, 1) := by decide +kernel
theorem dX8_house_75 : decode cX8_house 75 = .ok (.iload 5, 2) := by decide +kernel
theorem dX8_house_77 : decode cX8_house 77 = .ok (.iload_n 3, 1) := by decide +kernel
theorem dX8_house_78 : decode cX8_house 78 = .ok (.if_icmp .ge 8, 3) := by decide +kernel
theorem dX8_house_81 : decode cX8_house 81 = .ok (.iload 5, 2) := by decide +kernel
theorem dX8_house_83 : decode cX8_house 83 = .ok (.goto 4, 3) := by decide +kernel
theorem dX8_house_86 : decode cX8_house 86 = .ok (.iload_n 3, 1) := by decide +kernel
theorem dX8_house_87 : decode cX8_house 87 = .ok (.istore_n 3, 1) := by decide +kernel
theorem dX8_house_88 : decode cX8_house 88 = .ok (.iinc 4 1, 3) := by decide +kernel
theorem dX8_house_91 : decode cX8_house 91 = .ok (.goto (-53), 3) := by decide +kernel
theorem dX8_house_94 : decode cX8_house 94 = .ok (.iload_n 2, 1) := by decide +kernel
theorem dX8_house_95 : decode cX8_house 95 = .ok (.ldc 104, 2) := by decide +kernel
theorem dX8_house_97 : decode cX8_house 97 = .ok (.if_icmp .eq 7, 3) := by decide +kernel
theorem dX8_house_100 : decode cX8_house 100 = .ok (.iload_n 1, 1) := by decide +kernel
theorem dX8_house_101 : decode cX8_house 101 = .ok (.ifCond .ne 7, 3) := by decide +kernel
theorem dX8_house_104 : decode cX8_house 104 = .ok (.iload_n 2, 1) := by decide +kernel
theorem dX8_house_105 : decode cX8_house 105 = .ok (.goto 4, 3) := by decide +kernel
theorem dX8_house_108 : decode cX8_house 108 = .ok (.iload_n 3, 1) := by decide +kernel
theorem dX8_house_109 : decode cX8_house 109 = .ok (.ireturn, 1) := by decide +kernel
theorem dX8_lack_0 : decode cX8_lack 0 = .ok (.aload_n 0, 1) := by decide +kernel
theorem dX8_lack_1 : decode cX8_lack 1 = .ok (.getfield 7, 3) := by decide +kernel
theorem dX8_lack_4 : decode cX8_lack 4 = .ok (.iload_n 1, 1) := by decide +kernel
theorem dX8_lack_5 : decode cX8_lack 5 = .ok (.iaload, 1) := by decide +kernel
theorem dX8_lack_6 : decode cX8_lack 6 = .ok (.ifCond .ge 7, 3) := by decide +kernel
theorem dX8_lack_9 : decode cX8_lack 9 = .ok (.iconst 1, 1) := by decide +kernel
theorem dX8_lack_10 : decode cX8_lack 10 = .ok (.goto 18, 3) := by decide +kernel
theorem dX8_lack_13 : decode cX8_lack 13 = .ok (.iload_n 2, 1) := by decide +kernel
theorem dX8_lack_14 : decode cX8_lack 14 = .ok (.aload_n 0, 1) := by decide +kernel
theorem dX8_lack_15 : decode cX8_lack 15 = .ok (.getfield 13, 3) := by decide +kernel
theorem dX8_lack_18 : decode cX8_lack 18 = .ok (.iload_n 1, 1) := by decide +kernel
theorem dX8_lack_19 : decode cX8_lack 19 = .ok (.iaload, 1) := by decide +kernel
theorem dX8_lack_20 : decode cX8_lack 20 = .ok (.if_icmp .le 7, 3) := by decide +kernel
theorem dX8_lack_23 : decode cX8_lack 23 = .ok (.iconst 2, 1) := by decide +kernel
theorem dX8_lack_24 : decode cX8_lack 24 = .ok (.goto 4, 3) := by decide +kernel
theorem dX8_lack_27 : decode cX8_lack 27 = .ok (.iconst 0, 1) := by decide +kernel
theorem dX8_lack_28 : decode cX8_lack 28 = .ok (.ireturn, 1) := by decide +kernel
theorem dX8_noTimes_0 : decode cX8_noTimes 0 = .ok (.iconst 0, 1) := by decide +kernel
theorem dX8_noTimes_1 : decode cX8_noTimes 1 = .ok (.istore_n 1, 1) := by decide +kernel
theorem dX8_noTimes_2 : decode cX8_noTimes 2 = .ok (.iload_n 1, 1) := by decide +kernel
theorem dX8_noTimes_3 : decode cX8_noTimes 3 = .ok (.bipush 7, 2) := by decide +kernel
theorem dX8_noTimes_5 : decode cX8_noTimes 5 = .ok (.if_icmp .ge 16, 3) := by decide +kernel
theorem dX8_noTimes_8 : decode cX8_noTimes 8 = .ok (.aload_n 0, 1) := by decide +kernel
theorem dX8_noTimes_9 : decode cX8_noTimes 9 = .ok (.getfield 55, 3) := by decide +kernel
theorem dX8_noTimes_12 : decode cX8_noTimes 12 = .ok (.iload_n 1, 1) := by decide +kernel
theorem dX8_noTimes_13 : decode cX8_noTimes 13 = .ok (.iconst 0, 1) := by decide +kernel
theorem dX8_noTimes_14 : decode cX8_noTimes 14 = .ok (.iastore, 1) := by decide +kernel
theorem dX8_noTimes_15 : decode cX8_noTimes 15 = .ok (.iinc 1 1, 3) := by decide +kernel
theorem dX8_noTimes_18 : decode cX8_noTimes 18 = .ok (.goto (-16), 3) := by decide +kernel
theorem dX8_noTimes_21 : decode cX8_noTimes 21 = .ok (.return_, 1) := by decide +kernel
theorem dX8_turn_0 : decode cX8_turn 0 = .ok (.aload_n 0, 1) := by decide +kernel
theorem dX8_turn_1 : decode cX8_turn 1 = .ok (.iconst 0, 1) := by decide +kernel
theorem dX8_turn_2 : decode cX8_turn 2 = .ok (.putfield 68, 3) := by decide +kernel
theorem dX8_turn_5 : decode cX8_turn 5 = .ok (.aload_n 0, 1) := by decide +kernel
theorem dX8_turn_6 : decode cX8_turn 6 = .ok (.getfield 19, 3) := by decide +kernel
theorem dX8_turn_9 : decode cX8_turn 9 = .ok (.iconst 4, 1) := by decide +kernel
theorem dX8_turn_10 : decode cX8_turn 10 = .ok (.iaload, 1) := by decide +kernel
theorem dX8_turn_11 : decode cX8_turn 11 = .ok (.ifCond .ne 6, 3) := by decide +kernel
theorem dX8_turn_14 : decode cX8_turn 14 = .ok (.ldc 240, 2) := by decide +kernel
theorem dX8_turn_16 : decode cX8_turn 16 = .ok (.ireturn, 1) := by decide +kernel
theorem dX8_turn_17 : decode cX8_turn 17 = .ok (.iload_n 1, 1) := by decide +kernel
theorem dX8_turn_18 : decode cX8_turn 18 = .ok (.invokestatic 82, 3) := by decide +kernel
theorem dX8_turn_21 : decode cX8_turn 21 = .ok (.ifCond .eq 27, 3) := by decide +kernel
theorem dX8_turn_24 : decode cX8_turn 24 = .ok (.iload_n 2, 1) := by decide +kernel
theorem dX8_turn_25 : decode cX8_turn 25 = .ok (.i2l, 1) := by decide +kernel
theorem dX8_turn_26 : decode cX8_turn 26 = .ok (.lconst 0, 1) := by decide +kernel
theorem dX8_turn_27 : decode cX8_turn 27 = .ok (.ldc2_w 320, 3) := by decide +kernel
theorem dX8_turn_30 : decode cX8_turn 30 = .ok (.invokestatic 78, 3) := by decide +kernel
theorem dX8_turn_33 : decode cX8_turn 33 = .ok (.ifCond .eq 15, 3) := by decide +kernel
theorem dX8_turn_36 : decode cX8_turn 36 = .ok (.iload_n 3, 1) := by decide +kernel
theorem dX8_turn_37 : decode cX8_turn 37 = .ok (.i2l, 1) := by decide +kernel
theorem dX8_turn_38 : decode cX8_turn 38 = .ok (.lconst 0, 1) := by decide +kernel
theorem dX8_turn_39 : decode cX8_turn 39 = .ok (.ldc2_w 86, 3) := by decide +kernel
theorem dX8_turn_42 : decode cX8_turn 42 = .ok (.invokestatic 78, 3) := by decide +kernel
theorem dX8_turn_45 : decode cX8_turn 45 = .ok (.ifCond .ne 6, 3) := by decide +kernel
theorem dX8_turn_48 : decode cX8_turn 48 = .ok (.ldc 88, 2) := by decide +kernel
theorem dX8_turn_50 : decode cX8_turn 50 = .ok (.ireturn, 1) := by decide +kernel
theorem dX8_turn_51 : decode cX8_turn 51 = .ok (.aload_n 0, 1) := by decide +kernel
theorem dX8_turn_52 : decode cX8_turn 52 = .ok (.iload_n 1, 1) := by decide +kernel
theorem dX8_turn_53 : decode cX8_turn 53 = .ok (.iload_n 2, 1) := by decide +kernel
theorem dX8_turn_54 : decode cX8_turn 54 = .ok (.invokevirtual 322, 3) := by decide +kernel
theorem dX8_turn_57 : decode cX8_turn 57 = .ok (.istore 4, 2) := by decide +kernel
theorem dX8_turn_59 : decode cX8_turn 59 = .ok (.iload 4, 2) := by decide +kernel
theorem dX8_turn_61 : decode cX8_turn 61 = .ok (.ifCond .le 10, 3) := by decide +kernel
theorem dX8_turn_64 : decode cX8_turn 64 = .ok (.aload_n 0, 1) := by decide +kernel
theorem dX8_turn_65 : decode cX8_turn 65 = .ok (.iload 4, 2) := by decide +kernel
theorem dX8_turn_67 : decode cX8_turn 67 = .ok (.invokevirtual 89, 3) := by decide +kernel
theorem dX8_turn_70 : decode cX8_turn 70 = .ok (.ireturn, 1) := by decide +kernel
theorem dX8_turn_71 : decode cX8_turn 71 = .ok (.aload_n 0, 1) := by decide +kernel
theorem dX8_turn_72 : decode cX8_turn 72 = .ok (.invokevirtual 325, 3) := by decide +kernel
theorem dX8_turn_75 : decode cX8_turn 75 = .ok (.iconst 0, 1) := by decide +kernel
theorem dX8_turn_76 : decode cX8_turn 76 = .ok (.istore 5, 2) := by decide +kernel
theorem dX8_turn_78 : decode cX8_turn 78 = .ok (.iload 5, 2) := by decide +kernel
theorem dX8_turn_80 : decode cX8_turn 80 = .ok (.iload_n 2, 1) := by decide +kernel
theorem dX8_turn_81 : decode cX8_turn 81 = .ok (.if_icmp .ge 46, 3) := by decide +kernel
theorem dX8_turn_84 : decode cX8_turn 84 = .ok (.aload_n 0, 1) := by decide +kernel
theorem dX8_turn_85 : decode cX8_turn 85 = .ok (.getfield 16, 3) := by decide +kernel
theorem dX8_turn_88 : decode cX8_turn 88 = .ok (.bipush 40, 2) := by decide +kernel
theorem dX8_turn_90 : decode cX8_turn 90 = .ok (.iload_n 1, 1) := by decide +kernel
theorem dX8_turn_91 : decode cX8_turn 91 = .ok (.imul, 1) := by decide +kernel
theorem dX8_turn_92 : decode cX8_turn 92 = .ok (.iload 5, 2) := by decide +kernel
theorem dX8_turn_94 : decode cX8_turn 94 = .ok (.iadd, 1) := by decide +kernel
theorem dX8_turn_95 : decode cX8_turn 95 = .ok (.iaload, 1) := by decide +kernel
theorem dX8_turn_96 : decode cX8_turn 96 = .ok (.istore 6, 2) := by decide +kernel
theorem dX8_turn_98 : decode cX8_turn 98 = .ok (.aload_n 0, 1) := by decide +kernel
theorem dX8_turn_99 : decode cX8_turn 99 = .ok (.iload 6, 2) := by decide +kernel
theorem dX8_turn_101 : decode cX8_turn 101 = .ok (.invokevirtual 232, 3) := by decide +kernel
theorem dX8_turn_104 : decode cX8_turn 104 = .ok (.ifCond .ne 6, 3) := by decide +kernel
theorem dX8_turn_107 : decode cX8_turn 107 = .ok (.ldc 88, 2) := by decide +kernel
theorem dX8_turn_109 : decode cX8_turn 109 = .ok (.ireturn, 1) := by decide +kernel
theorem dX8_turn_110 : decode cX8_turn 110 = .ok (.aload_n 0, 1) := by decide +kernel
theorem dX8_turn_111 : decode cX8_turn 111 = .ok (.getfield 55, 3) := by decide +kernel
theorem dX8_turn_114 : decode cX8_turn 114 = .ok (.iload 6, 2) := by decide +kernel
theorem dX8_turn_116 : decode cX8_turn 116 = .ok (.dup2, 1) := by decide +kernel
theorem dX8_turn_117 : decode cX8_turn 117 = .ok (.iaload, 1) := by decide +kernel
theorem dX8_turn_118 : decode cX8_turn 118 = .ok (.iconst 1, 1) := by decide +kernel
theorem dX8_turn_119 : decode cX8_turn 119 = .ok (.iadd, 1) := by decide +kernel
theorem dX8_turn_120 : decode cX8_turn 120 = .ok (.iastore, 1) := by decide +kernel
theorem dX8_turn_121 : decode cX8_turn 121 = .ok (.iinc 5 1, 3) := by decide +kernel
theorem dX8_turn_124 : decode cX8_turn 124 = .ok (.goto (-46), 3) := by decide +kernel
theorem dX8_turn_127 : decode cX8_turn 127 = .ok (.aload_n 0, 1) := by decide +kernel
theorem dX8_turn_128 : decode cX8_turn 128 = .ok (.iconst 0, 1) := by decide +kernel
theorem dX8_turn_129 : decode cX8_turn 129 = .ok (.putfield 72, 3) := by decide +kernel
theorem dX8_turn_132 : decode cX8_turn 132 = .ok (.iconst 0, 1) := by decide +kernel
theorem dX8_turn_133 : decode cX8_turn 133 = .ok (.istore 5, 2) := by decide +kernel
theorem dX8_turn_135 : decode cX8_turn 135 = .ok (.iconst 0, 1) := by decide +kernel
theorem dX8_turn_136 : decode cX8_turn 136 = .ok (.istore 6, 2) := by decide +kernel
theorem dX8_turn_138 : decode cX8_turn 138 = .ok (.iconst 1, 1) := by decide +kernel
theorem dX8_turn_139 : decode cX8_turn 139 = .ok (.istore 7, 2) := by decide +kernel
theorem dX8_turn_141 : decode cX8_turn 141 = .ok (.iload 7, 2) := by decide +kernel
theorem dX8_turn_143 : decode cX8_turn 143 = .ok (.aload_n 0, 1) := by decide +kernel
theorem dX8_turn_144 : decode cX8_turn 144 = .ok (.getfield 19, 3) := by decide +kernel
theorem dX8_turn_147 : decode cX8_turn 147 = .ok (.iconst 4, 1) := by decide +kernel
theorem dX8_turn_148 : decode cX8_turn 148 = .ok (.iaload, 1) := by decide +kernel
theorem dX8_turn_149 : decode cX8_turn 149 = .ok (.if_icmp .ge 61, 3) := by decide +kernel
theorem dX8_turn_152 : decode cX8_turn 152 = .ok (.aload_n 0, 1) := by decide +kernel
theorem dX8_turn_153 : decode cX8_turn 153 = .ok (.getfield 55, 3) := by decide +kernel
theorem dX8_turn_156 : decode cX8_turn 156 = .ok (.iload 7, 2) := by decide +kernel
theorem dX8_turn_158 : decode cX8_turn 158 = .ok (.iaload, 1) := by decide +kernel
theorem dX8_turn_159 : decode cX8_turn 159 = .ok (.aload_n 0, 1) := by decide +kernel
theorem dX8_turn_160 : decode cX8_turn 160 = .ok (.getfield 55, 3) := by decide +kernel
theorem dX8_turn_163 : decode cX8_turn 163 = .ok (.iload 5, 2) := by decide +kernel
theorem dX8_turn_165 : decode cX8_turn 165 = .ok (.iaload, 1) := by decide +kernel
theorem dX8_turn_166 : decode cX8_turn 166 = .ok (.if_icmp .ge 8, 3) := by decide +kernel
theorem dX8_turn_169 : decode cX8_turn 169 = .ok (.iload 7, 2) := by decide +kernel
theorem dX8_turn_171 : decode cX8_turn 171 = .ok (.goto 5, 3) := by decide +kernel
theorem dX8_turn_174 : decode cX8_turn 174 = .ok (.iload 5, 2) := by decide +kernel
theorem dX8_turn_176 : decode cX8_turn 176 = .ok (.istore 5, 2) := by decide +kernel
theorem dX8_turn_178 : decode cX8_turn 178 = .ok (.aload_n 0, 1) := by decide +kernel
theorem dX8_turn_179 : decode cX8_turn 179 = .ok (.getfield 55, 3) := by decide +kernel
theorem dX8_turn_182 : decode cX8_turn 182 = .ok (.iload 7, 2) := by decide +kernel
theorem dX8_turn_184 : decode cX8_turn 184 = .ok (.iaload, 1) := by decide +kernel
theorem dX8_turn_185 : decode cX8_turn 185 = .ok (.aload_n 0, 1) := by decide +kernel
theorem dX8_turn_186 : decode cX8_turn 186 = .ok (.getfield 55, 3) := by decide +kernel
theorem dX8_turn_189 : decode cX8_turn 189 = .ok (.iload 6, 2) := by decide +kernel
theorem dX8_turn_191 : decode cX8_turn 191 = .ok (.iaload, 1) := by decide +kernel
theorem dX8_turn_192 : decode cX8_turn 192 = .ok (.if_icmp .le 8, 3) := by decide +kernel
theorem dX8_turn_195 : decode cX8_turn 195 = .ok (.iload 7, 2) := by decide +kernel
theorem dX8_turn_197 : decode cX8_turn 197 = .ok (.goto 5, 3) := by decide +kernel
theorem dX8_turn_200 : decode cX8_turn 200 = .ok (.iload 6, 2) := by decide +kernel
theorem dX8_turn_202 : decode cX8_turn 202 = .ok (.istore 6, 2) := by decide +kernel
theorem dX8_turn_204 : decode cX8_turn 204 = .ok (.iinc 7 1, 3) := by decide +kernel
theorem dX8_turn_207 : decode cX8_turn 207 = .ok (.goto (-66), 3) := by decide +kernel
theorem dX8_turn_210 : decode cX8_turn 210 = .ok (.iload_n 3, 1) := by decide +kernel
theorem dX8_turn_211 : decode cX8_turn 211 = .ok (.ifCond .ne 8, 3) := by decide +kernel
theorem dX8_turn_214 : decode cX8_turn 214 = .ok (.iload 5, 2) := by decide +kernel
theorem dX8_turn_216 : decode cX8_turn 216 = .ok (.goto 34, 3) := by decide +kernel
theorem dX8_turn_219 : decode cX8_turn 219 = .ok (.iload_n 3, 1) := by decide +kernel
theorem dX8_turn_220 : decode cX8_turn 220 = .ok (.iconst 1, 1) := by decide +kernel
theorem dX8_turn_221 : decode cX8_turn 221 = .ok (.if_icmp .ne 13, 3) := by decide +kernel
theorem dX8_turn_224 : decode cX8_turn 224 = .ok (.aload_n 0, 1) := by decide +kernel
theorem dX8_turn_225 : decode cX8_turn 225 = .ok (.getfield 55, 3) := by decide +kernel
theorem dX8_turn_228 : decode cX8_turn 228 = .ok (.iload 5, 2) := by decide +kernel
theorem dX8_turn_230 : decode cX8_turn 230 = .ok (.iaload, 1) := by decide +kernel
theorem dX8_turn_231 : decode cX8_turn 231 = .ok (.goto 19, 3) := by decide +kernel
theorem dX8_turn_234 : decode cX8_turn 234 = .ok (.aload_n 0, 1) := by decide +kernel
theorem dX8_turn_235 : decode cX8_turn 235 = .ok (.getfield 55, 3) := by decide +kernel
theorem dX8_turn_238 : decode cX8_turn 238 = .ok (.iload 6, 2) := by decide +kernel
theorem dX8_turn_240 : decode cX8_turn 240 = .ok (.iaload, 1) := by decide +kernel
theorem dX8_turn_241 : decode cX8_turn 241 = .ok (.aload_n 0, 1) := by decide +kernel
theorem dX8_turn_242 : decode cX8_turn 242 = .ok (.getfield 19, 3) := by decide +kernel
theorem dX8_turn_245 : decode cX8_turn 245 = .ok (.iconst 4, 1) := by decide +kernel
theorem dX8_turn_246 : decode cX8_turn 246 = .ok (.iaload, 1) := by decide +kernel
theorem dX8_turn_247 : decode cX8_turn 247 = .ok (.imul, 1) := by decide +kernel
theorem dX8_turn_248 : decode cX8_turn 248 = .ok (.iload_n 2, 1) := by decide +kernel
theorem dX8_turn_249 : decode cX8_turn 249 = .ok (.isub, 1) := by decide +kernel
theorem dX8_turn_250 : decode cX8_turn 250 = .ok (.ireturn, 1) := by decide +kernel
theorem dX8_gloves_0 : decode cX8_gloves 0 = .ok (.aload_n 0, 1) := by decide +kernel
theorem dX8_gloves_1 : decode cX8_gloves 1 = .ok (.iconst 0, 1) := by decide +kernel
theorem dX8_gloves_2 : decode cX8_gloves 2 = .ok (.putfield 68, 3) := by decide +kernel
theorem dX8_gloves_5 : decode cX8_gloves 5 = .ok (.aload_n 0, 1) := by decide +kernel
theorem dX8_gloves_6 : decode cX8_gloves 6 = .ok (.getfield 19, 3) := by decide +kernel
theorem dX8_gloves_9 : decode cX8_gloves 9 = .ok (.iconst 4, 1) := by decide +kernel
theorem dX8_gloves_10 : decode cX8_gloves 10 = .ok (.iaload, 1) := by decide +kernel
theorem dX8_gloves_11 : decode cX8_gloves 11 = .ok (.ifCond .ne 6, 3) := by decide +kernel
theorem dX8_gloves_14 : decode cX8_gloves 14 = .ok (.ldc 240, 2) := by decide +kernel
theorem dX8_gloves_16 : decode cX8_gloves 16 = .ok (.ireturn, 1) := by decide +kernel
theorem dX8_gloves_17 : decode cX8_gloves 17 = .ok (.iload_n 1, 1) := by decide +kernel
theorem dX8_gloves_18 : decode cX8_gloves 18 = .ok (.invokestatic 82, 3) := by decide +kernel
theorem dX8_gloves_21 : decode cX8_gloves 21 = .ok (.ifCond .eq 25, 3) := by decide +kernel
theorem dX8_gloves_24 : decode cX8_gloves 24 = .ok (.iload_n 2, 1) := by decide +kernel
theorem dX8_gloves_25 : decode cX8_gloves 25 = .ok (.i2l, 1) := by decide +kernel
theorem dX8_gloves_26 : decode cX8_gloves 26 = .ok (.lconst 1, 1) := by decide +kernel
theorem dX8_gloves_27 : decode cX8_gloves 27 = .ok (.ldc2_w 320, 3) := by decide +kernel
theorem dX8_gloves_30 : decode cX8_gloves 30 = .ok (.invokestatic 78, 3) := by decide +kernel
theorem dX8_gloves_33 : decode cX8_gloves 33 = .ok (.ifCond .eq 13, 3) := by decide +kernel
theorem dX8_gloves_36 : decode cX8_gloves 36 = .ok (.iload_n 3, 1) := by decide +kernel
theorem dX8_gloves_37 : decode cX8_gloves 37 = .ok (.i2l, 1) := by decide +kernel
theorem dX8_gloves_38 : decode cX8_gloves 38 = .ok (.lconst 0, 1) := by decide +kernel
theorem dX8_gloves_39 : decode cX8_gloves 39 = .ok (.lconst 1, 1) := by decide +kernel
theorem dX8_gloves_40 : decode cX8_gloves 40 = .ok (.invokestatic 78, 3) := by decide +kernel
theorem dX8_gloves_43 : decode cX8_gloves 43 = .ok (.ifCond .ne 6, 3) := by decide +kernel
theorem dX8_gloves_46 : decode cX8_gloves 46 = .ok (.ldc 88, 2) := by decide +kernel
theorem dX8_gloves_48 : decode cX8_gloves 48 = .ok (.ireturn, 1) := by decide +kernel
theorem dX8_gloves_49 : decode cX8_gloves 49 = .ok (.aload_n 0, 1) := by decide +kernel
theorem dX8_gloves_50 : decode cX8_gloves 50 = .ok (.iload_n 1, 1) := by decide +kernel
theorem dX8_gloves_51 : decode cX8_gloves 51 = .ok (.iload_n 2, 1) := by decide +kernel
theorem dX8_gloves_52 : decode cX8_gloves 52 = .ok (.invokevirtual 322, 3) := by decide +kernel
theorem dX8_gloves_55 : decode cX8_gloves 55 = .ok (.istore 4, 2) := by decide +kernel
theorem dX8_gloves_57 : decode cX8_gloves 57 = .ok (.iload 4, 2) := by decide +kernel
theorem dX8_gloves_59 : decode cX8_gloves 59 = .ok (.ifCond .le 10, 3) := by decide +kernel
theorem dX8_gloves_62 : decode cX8_gloves 62 = .ok (.aload_n 0, 1) := by decide +kernel
theorem dX8_gloves_63 : decode cX8_gloves 63 = .ok (.iload 4, 2) := by decide +kernel
theorem dX8_gloves_65 : decode cX8_gloves 65 = .ok (.invokevirtual 89, 3) := by decide +kernel
theorem dX8_gloves_68 : decode cX8_gloves 68 = .ok (.ireturn, 1) := by decide +kernel
theorem dX8_gloves_69 : decode cX8_gloves 69 = .ok (.aload_n 0, 1) := by decide +kernel
theorem dX8_gloves_70 : decode cX8_gloves 70 = .ok (.invokevirtual 325, 3) := by decide +kernel
theorem dX8_gloves_73 : decode cX8_gloves 73 = .ok (.iconst 1, 1) := by decide +kernel
theorem dX8_gloves_74 : decode cX8_gloves 74 = .ok (.aload_n 0, 1) := by decide +kernel
theorem dX8_gloves_75 : decode cX8_gloves 75 = .ok (.getfield 19, 3) := by decide +kernel
theorem dX8_gloves_78 : decode cX8_gloves 78 = .ok (.iconst 4, 1) := by decide +kernel
theorem dX8_gloves_79 : decode cX8_gloves 79 = .ok (.iaload, 1) := by decide +kernel
theorem dX8_gloves_80 : decode cX8_gloves 80 = .ok (.ishl, 1) := by decide +kernel
theorem dX8_gloves_81 : decode cX8_gloves 81 = .ok (.iconst 1, 1) := by decide +kernel
theorem dX8_gloves_82 : decode cX8_gloves 82 = .ok (.isub, 1) := by decide +kernel
theorem dX8_gloves_83 : decode cX8_gloves 83 = .ok (.istore 5, 2) := by decide +kernel
theorem dX8_gloves_85 : decode cX8_gloves 85 = .ok (.iload 5, 2) := by decide +kernel
theorem dX8_gloves_87 : decode cX8_gloves 87 = .ok (.istore 6, 2) := by decide +kernel
theorem dX8_gloves_89 : decode cX8_gloves 89 = .ok (.iconst 0, 1) := by decide +kernel
theorem dX8_gloves_90 : decode cX8_gloves 90 = .ok (.istore 7, 2) := by decide +kernel
theorem dX8_gloves_92 : decode cX8_gloves 92 = .ok (.iload 7, 2) := by decide +kernel
theorem dX8_gloves_94 : decode cX8_gloves 94 = .ok (.iload_n 2, 1) := by decide +kernel
theorem dX8_gloves_95 : decode cX8_gloves 95 = .ok (.if_icmp .ge 79, 3) := by decide +kernel
theorem dX8_gloves_98 : decode cX8_gloves 98 = .ok (.aload_n 0, 1) := by decide +kernel
theorem dX8_gloves_99 : decode cX8_gloves 99 = .ok (.getfield 16, 3) := by decide +kernel
theorem dX8_gloves_102 : decode cX8_gloves 102 = .ok (.bipush 40, 2) := by decide +kernel
theorem dX8_gloves_104 : decode cX8_gloves 104 = .ok (.iload_n 1, 1) := by decide +kernel
theorem dX8_gloves_105 : decode cX8_gloves 105 = .ok (.imul, 1) := by decide +kernel
theorem dX8_gloves_106 : decode cX8_gloves 106 = .ok (.iload 7, 2) := by decide +kernel
theorem dX8_gloves_108 : decode cX8_gloves 108 = .ok (.iadd, 1) := by decide +kernel
theorem dX8_gloves_109 : decode cX8_gloves 109 = .ok (.iaload, 1) := by decide +kernel
theorem dX8_gloves_110 : decode cX8_gloves 110 = .ok (.istore 8, 2) := by decide +kernel
theorem dX8_gloves_112 : decode cX8_gloves 112 = .ok (.iload 8, 2) := by decide +kernel
theorem dX8_gloves_114 : decode cX8_gloves 114 = .ok (.i2l, 1) := by decide +kernel
theorem dX8_gloves_115 : decode cX8_gloves 115 = .ok (.lconst 0, 1) := by decide +kernel
theorem dX8_gloves_116 : decode cX8_gloves 116 = .ok (.iload 5, 2) := by decide +kernel
theorem dX8_gloves_118 : decode cX8_gloves 118 = .ok (.i2l, 1) := by decide +kernel
theorem dX8_gloves_119 : decode cX8_gloves 119 = .ok (.invokestatic 78, 3) := by decide +kernel
theorem dX8_gloves_122 : decode cX8_gloves 122 = .ok (.ifCond .ne 6, 3) := by decide +kernel
theorem dX8_gloves_125 : decode cX8_gloves 125 = .ok (.ldc 88, 2) := by decide +kernel
theorem dX8_gloves_127 : decode cX8_gloves 127 = .ok (.ireturn, 1) := by decide +kernel
theorem dX8_gloves_128 : decode cX8_gloves 128 = .ok (.iload 6, 2) := by decide +kernel
theorem dX8_gloves_130 : decode cX8_gloves 130 = .ok (.iload 8, 2) := by decide +kernel
theorem dX8_gloves_132 : decode cX8_gloves 132 = .ok (.iand, 1) := by decide +kernel
theorem dX8_gloves_133 : decode cX8_gloves 133 = .ok (.istore 6, 2) := by decide +kernel
theorem dX8_gloves_135 : decode cX8_gloves 135 = .ok (.iconst 0, 1) := by decide +kernel
theorem dX8_gloves_136 : decode cX8_gloves 136 = .ok (.istore 9, 2) := by decide +kernel
theorem dX8_gloves_138 : decode cX8_gloves 138 = .ok (.iload 9, 2) := by decide +kernel
theorem dX8_gloves_140 : decode cX8_gloves 140 = .ok (.bipush 7, 2) := by decide +kernel
theorem dX8_gloves_142 : decode cX8_gloves 142 = .ok (.if_icmp .ge 26, 3) := by decide +kernel
theorem dX8_gloves_145 : decode cX8_gloves 145 = .ok (.aload_n 0, 1) := by decide +kernel
theorem dX8_gloves_146 : decode cX8_gloves 146 = .ok (.getfield 55, 3) := by decide +kernel
theorem dX8_gloves_149 : decode cX8_gloves 149 = .ok (.iload 9, 2) := by decide +kernel
theorem dX8_gloves_151 : decode cX8_gloves 151 = .ok (.dup2, 1) := by decide +kernel
theorem dX8_gloves_152 : decode cX8_gloves 152 = .ok (.iaload, 1) := by decide +kernel
theorem dX8_gloves_153 : decode cX8_gloves 153 = .ok (.iload 8, 2) := by decide +kernel
theorem dX8_gloves_155 : decode cX8_gloves 155 = .ok (.iload 9, 2) := by decide +kernel
theorem dX8_gloves_157 : decode cX8_gloves 157 = .ok (.ishr, 1) := by decide +kernel
theorem dX8_gloves_158 : decode cX8_gloves 158 = .ok (.iconst 1, 1) := by decide +kernel
theorem dX8_gloves_159 : decode cX8_gloves 159 = .ok (.iand, 1) := by decide +kernel
theorem dX8_gloves_160 : decode cX8_gloves 160 = .ok (.iadd, 1) := by decide +kernel
theorem dX8_gloves_161 : decode cX8_gloves 161 = .ok (.iastore, 1) := by decide +kernel
theorem dX8_gloves_162 : decode cX8_gloves 162 = .ok (.iinc 9 1, 3) := by decide +kernel
theorem dX8_gloves_165 : decode cX8_gloves 165 = .ok (.goto (-27), 3) := by decide +kernel
theorem dX8_gloves_168 : decode cX8_gloves 168 = .ok (.iinc 7 1, 3) := by decide +kernel
theorem dX8_gloves_171 : decode cX8_gloves 171 = .ok (.goto (-79), 3) := by decide +kernel
theorem dX8_gloves_174 : decode cX8_gloves 174 = .ok (.aload_n 0, 1) := by decide +kernel
theorem dX8_gloves_175 : decode cX8_gloves 175 = .ok (.iconst 0, 1) := by decide +kernel
theorem dX8_gloves_176 : decode cX8_gloves 176 = .ok (.putfield 72, 3) := by decide +kernel
theorem dX8_gloves_179 : decode cX8_gloves 179 = .ok (.iconst 0, 1) := by decide +kernel
theorem dX8_gloves_180 : decode cX8_gloves 180 = .ok (.istore 7, 2) := by decide +kernel
theorem dX8_gloves_182 : decode cX8_gloves 182 = .ok (.iconst 1, 1) := by decide +kernel
theorem dX8_gloves_183 : decode cX8_gloves 183 = .ok (.istore 8, 2) := by decide +kernel
theorem dX8_gloves_185 : decode cX8_gloves 185 = .ok (.iload 8, 2) := by decide +kernel
theorem dX8_gloves_187 : decode cX8_gloves 187 = .ok (.aload_n 0, 1) := by decide +kernel
theorem dX8_gloves_188 : decode cX8_gloves 188 = .ok (.getfield 19, 3) := by decide +kernel
theorem dX8_gloves_191 : decode cX8_gloves 191 = .ok (.iconst 4, 1) := by decide +kernel
theorem dX8_gloves_192 : decode cX8_gloves 192 = .ok (.iaload, 1) := by decide +kernel
theorem dX8_gloves_193 : decode cX8_gloves 193 = .ok (.if_icmp .ge 35, 3) := by decide +kernel
theorem dX8_gloves_196 : decode cX8_gloves 196 = .ok (.aload_n 0, 1) := by decide +kernel
theorem dX8_gloves_197 : decode cX8_gloves 197 = .ok (.getfield 55, 3) := by decide +kernel
theorem dX8_gloves_200 : decode cX8_gloves 200 = .ok (.iload 8, 2) := by decide +kernel
theorem dX8_gloves_202 : decode cX8_gloves 202 = .ok (.iaload, 1) := by decide +kernel
theorem dX8_gloves_203 : decode cX8_gloves 203 = .ok (.aload_n 0, 1) := by decide +kernel
theorem dX8_gloves_204 : decode cX8_gloves 204 = .ok (.getfield 55, 3) := by decide +kernel
theorem dX8_gloves_207 : decode cX8_gloves 207 = .ok (.iload 7, 2) := by decide +kernel
theorem dX8_gloves_209 : decode cX8_gloves 209 = .ok (.iaload, 1) := by decide +kernel
theorem dX8_gloves_210 : decode cX8_gloves 210 = .ok (.if_icmp .le 8, 3) := by decide +kernel
theorem dX8_gloves_213 : decode cX8_gloves 213 = .ok (.iload 8, 2) := by decide +kernel
theorem dX8_gloves_215 : decode cX8_gloves 215 = .ok (.goto 5, 3) := by decide +kernel
theorem dX8_gloves_218 : decode cX8_gloves 218 = .ok (.iload 7, 2) := by decide +kernel
theorem dX8_gloves_220 : decode cX8_gloves 220 = .ok (.istore 7, 2) := by decide +kernel
theorem dX8_gloves_222 : decode cX8_gloves 222 = .ok (.iinc 8 1, 3) := by decide +kernel
theorem dX8_gloves_225 : decode cX8_gloves 225 = .ok (.goto (-40), 3) := by decide +kernel
theorem dX8_gloves_228 : decode cX8_gloves 228 = .ok (.iload_n 3, 1) := by decide +kernel
theorem dX8_gloves_229 : decode cX8_gloves 229 = .ok (.ifCond .ne 8, 3) := by decide +kernel
theorem dX8_gloves_232 : decode cX8_gloves 232 = .ok (.iload 6, 2) := by decide +kernel
theorem dX8_gloves_234 : decode cX8_gloves 234 = .ok (.goto 5, 3) := by decide +kernel
theorem dX8_gloves_237 : decode cX8_gloves 237 = .ok (.iload 7, 2) := by decide +kernel
theorem dX8_gloves_239 : decode cX8_gloves 239 = .ok (.ireturn, 1) := by decide +kernel
theorem dX8_image_0 : decode cX8_image 0 = .ok (.aload_n 0, 1) := by decide +kernel
theorem dX8_image_1 : decode cX8_image 1 = .ok (.iconst 0, 1) := by decide +kernel
theorem dX8_image_2 : decode cX8_image 2 = .ok (.putfield 68, 3) := by decide +kernel
theorem dX8_image_5 : decode cX8_image 5 = .ok (.iload_n 1, 1) := by decide +kernel
theorem dX8_image_6 : decode cX8_image 6 = .ok (.i2l, 1) := by decide +kernel
theorem dX8_image_7 : decode cX8_image 7 = .ok (.lconst 0, 1) := by decide +kernel
theorem dX8_image_8 : decode cX8_image 8 = .ok (.lconst 1, 1) := by decide +kernel
theorem dX8_image_9 : decode cX8_image 9 = .ok (.invokestatic 78, 3) := by decide +kernel
theorem dX8_image_12 : decode cX8_image 12 = .ok (.ifCond .ne 6, 3) := by decide +kernel
theorem dX8_image_15 : decode cX8_image 15 = .ok (.ldc 88, 2) := by decide +kernel
theorem dX8_image_17 : decode cX8_image 17 = .ok (.ireturn, 1) := by decide +kernel
theorem dX8_image_18 : decode cX8_image 18 = .ok (.aload_n 0, 1) := by decide +kernel
theorem dX8_image_19 : decode cX8_image 19 = .ok (.getfield 217, 3) := by decide +kernel
theorem dX8_image_22 : decode cX8_image 22 = .ok (.ifCond .ne 6, 3) := by decide +kernel
theorem dX8_image_25 : decode cX8_image 25 = .ok (.ldc 240, 2) := by decide +kernel
theorem dX8_image_27 : decode cX8_image 27 = .ok (.ireturn, 1) := by decide +kernel
theorem dX8_image_28 : decode cX8_image 28 = .ok (.iconst 0, 1) := by decide +kernel
theorem dX8_image_29 : decode cX8_image 29 = .ok (.istore_n 2, 1) := by decide +kernel
theorem dX8_image_30 : decode cX8_image 30 = .ok (.iload_n 2, 1) := by decide +kernel
theorem dX8_image_31 : decode cX8_image 31 = .ok (.bipush 109, 2) := by decide +kernel
theorem dX8_image_33 : decode cX8_image 33 = .ok (.if_icmp .ge 26, 3) := by decide +kernel
theorem dX8_image_36 : decode cX8_image 36 = .ok (.aload_n 0, 1) := by decide +kernel
theorem dX8_image_37 : decode cX8_image 37 = .ok (.getfield 62, 3) := by decide +kernel
theorem dX8_image_40 : decode cX8_image 40 = .ok (.bipush 109, 2) := by decide +kernel
theorem dX8_image_42 : decode cX8_image 42 = .ok (.iload_n 1, 1) := by decide +kernel
theorem dX8_image_43 : decode cX8_image 43 = .ok (.imul, 1) := by decide +kernel
theorem dX8_image_44 : decode cX8_image 44 = .ok (.iload_n 2, 1) := by decide +kernel
theorem dX8_image_45 : decode cX8_image 45 = .ok (.iadd, 1) := by decide +kernel
theorem dX8_image_46 : decode cX8_image 46 = .ok (.aload_n 0, 1) := by decide +kernel
theorem dX8_image_47 : decode cX8_image 47 = .ok (.getfield 19, 3) := by decide +kernel
theorem dX8_image_50 : decode cX8_image 50 = .ok (.iload_n 2, 1) := by decide +kernel
theorem dX8_image_51 : decode cX8_image 51 = .ok (.iaload, 1) := by decide +kernel
theorem dX8_image_52 : decode cX8_image 52 = .ok (.iastore, 1) := by decide +kernel
theorem dX8_image_53 : decode cX8_image 53 = .ok (.iinc 2 1, 3) := by decide +kernel
theorem dX8_image_56 : decode cX8_image 56 = .ok (.goto (-26), 3) := by decide +kernel
theorem dX8_image_59 : decode cX8_image 59 = .ok (.aload_n 0, 1) := by decide +kernel
theorem dX8_image_60 : decode cX8_image 60 = .ok (.getfield 58, 3) := by decide +kernel
theorem dX8_image_63 : decode cX8_image 63 = .ok (.iload_n 1, 1) := by decide +kernel
theorem dX8_image_64 : decode cX8_image 64 = .ok (.iconst 1, 1) := by decide +kernel
theorem dX8_image_65 : decode cX8_image 65 = .ok (.bastore, 1) := by decide +kernel
theorem dX8_image_66 : decode cX8_image 66 = .ok (.iconst 1, 1) := by decide +kernel
theorem dX8_image_67 : decode cX8_image 67 = .ok (.ireturn, 1) := by decide +kernel
theorem dX8_restore_0 : decode cX8_restore 0 = .ok (.aload_n 0, 1) := by decide +kernel
theorem dX8_restore_1 : decode cX8_restore 1 = .ok (.iconst 0, 1) := by decide +kernel
theorem dX8_restore_2 : decode cX8_restore 2 = .ok (.putfield 68, 3) := by decide +kernel
theorem dX8_restore_5 : decode cX8_restore 5 = .ok (.iload_n 1, 1) := by decide +kernel
theorem dX8_restore_6 : decode cX8_restore 6 = .ok (.i2l, 1) := by decide +kernel
theorem dX8_restore_7 : decode cX8_restore 7 = .ok (.lconst 0, 1) := by decide +kernel
theorem dX8_restore_8 : decode cX8_restore 8 = .ok (.lconst 1, 1) := by decide +kernel
theorem dX8_restore_9 : decode cX8_restore 9 = .ok (.invokestatic 78, 3) := by decide +kernel
theorem dX8_restore_12 : decode cX8_restore 12 = .ok (.ifCond .ne 6, 3) := by decide +kernel
theorem dX8_restore_15 : decode cX8_restore 15 = .ok (.ldc 88, 2) := by decide +kernel
theorem dX8_restore_17 : decode cX8_restore 17 = .ok (.ireturn, 1) := by decide +kernel
theorem dX8_restore_18 : decode cX8_restore 18 = .ok (.aload_n 0, 1) := by decide +kernel
theorem dX8_restore_19 : decode cX8_restore 19 = .ok (.getfield 58, 3) := by decide +kernel
theorem dX8_restore_22 : decode cX8_restore 22 = .ok (.iload_n 1, 1) := by decide +kernel
theorem dX8_restore_23 : decode cX8_restore 23 = .ok (.baload, 1) := by decide +kernel
theorem dX8_restore_24 : decode cX8_restore 24 = .ok (.ifCond .ne 6, 3) := by decide +kernel
theorem dX8_restore_27 : decode cX8_restore 27 = .ok (.ldc 240, 2) := by decide +kernel
theorem dX8_restore_29 : decode cX8_restore 29 = .ok (.ireturn, 1) := by decide +kernel
theorem dX8_restore_30 : decode cX8_restore 30 = .ok (.iconst 0, 1) := by decide +kernel
theorem dX8_restore_31 : decode cX8_restore 31 = .ok (.istore_n 2, 1) := by decide +kernel
theorem dX8_restore_32 : decode cX8_restore 32 = .ok (.iload_n 2, 1) := by decide +kernel
theorem dX8_restore_33 : decode cX8_restore 33 = .ok (.bipush 109, 2) := by decide +kernel
theorem dX8_restore_35 : decode cX8_restore 35 = .ok (.if_icmp .ge 26, 3) := by decide +kernel
theorem dX8_restore_38 : decode cX8_restore 38 = .ok (.aload_n 0, 1) := by decide +kernel
theorem dX8_restore_39 : decode cX8_restore 39 = .ok (.getfield 19, 3) := by decide +kernel
theorem dX8_restore_42 : decode cX8_restore 42 = .ok (.iload_n 2, 1) := by decide +kernel
theorem dX8_restore_43 : decode cX8_restore 43 = .ok (.aload_n 0, 1) := by decide +kernel
theorem dX8_restore_44 : decode cX8_restore 44 = .ok (.getfield 62, 3) := by decide +kernel
theorem dX8_restore_47 : decode cX8_restore 47 = .ok (.bipush 109, 2) := by decide +kernel
theorem dX8_restore_49 : decode cX8_restore 49 = .ok (.iload_n 1, 1) := by decide +kernel
theorem dX8_restore_50 : decode cX8_restore 50 = .ok (.imul, 1) := by decide +kernel
theorem dX8_restore_51 : decode cX8_restore 51 = .ok (.iload_n 2, 1) := by decide +kernel
theorem dX8_restore_52 : decode cX8_restore 52 = .ok (.iadd, 1) := by decide +kernel
theorem dX8_restore_53 : decode cX8_restore 53 = .ok (.iaload, 1) := by decide +kernel
theorem dX8_restore_54 : decode cX8_restore 54 = .ok (.iastore, 1) := by decide +kernel
theorem dX8_restore_55 : decode cX8_restore 55 = .ok (.iinc 2 1, 3) := by decide +kernel
theorem dX8_restore_58 : decode cX8_restore 58 = .ok (.goto (-26), 3) := by decide +kernel
theorem dX8_restore_61 : decode cX8_restore 61 = .ok (.aload_n 0, 1) := by decide +kernel
theorem dX8_restore_62 : decode cX8_restore 62 = .ok (.iconst 0, 1) := by decide +kernel
theorem dX8_restore_63 : decode cX8_restore 63 = .ok (.putfield 221, 3) := by decide +kernel
theorem dX8_restore_66 : decode cX8_restore 66 = .ok (.iconst 1, 1) := by decide +kernel
theorem dX8_restore_67 : decode cX8_restore 67 = .ok (.ireturn, 1) := by decide +kernel
theorem dX8_isOf_0 : decode cX8_isOf 0 = .ok (.iload_n 1, 1) := by decide +kernel
theorem dX8_isOf_1 : decode cX8_isOf 1 = .ok (.ifCond .eq 28, 3) := by decide +kernel
theorem dX8_isOf_4 : decode cX8_isOf 4 = .ok (.iload_n 0, 1) := by decide +kernel
theorem dX8_isOf_5 : decode cX8_isOf 5 = .ok (.iload_n 1, 1) := by decide +kernel
theorem dX8_isOf_6 : decode cX8_isOf 6 = .ok (.if_icmp .eq 23, 3) := by decide +kernel
theorem dX8_isOf_9 : decode cX8_isOf 9 = .ok (.iload_n 1, 1) := by decide +kernel
theorem dX8_isOf_10 : decode cX8_isOf 10 = .ok (.iconst 1, 1) := by decide +kernel
theorem dX8_isOf_11 : decode cX8_isOf 11 = .ok (.if_icmp .ne 8, 3) := by decide +kernel
theorem dX8_isOf_14 : decode cX8_isOf 14 = .ok (.iload_n 0, 1) := by decide +kernel
theorem dX8_isOf_15 : decode cX8_isOf 15 = .ok (.iconst 4, 1) := by decide +kernel
theorem dX8_isOf_16 : decode cX8_isOf 16 = .ok (.if_icmp .lt 13, 3) := by decide +kernel
theorem dX8_isOf_19 : decode cX8_isOf 19 = .ok (.iload_n 1, 1) := by decide +kernel
theorem dX8_isOf_20 : decode cX8_isOf 20 = .ok (.iconst 4, 1) := by decide +kernel
theorem dX8_isOf_21 : decode cX8_isOf 21 = .ok (.if_icmp .ne 12, 3) := by decide +kernel
theorem dX8_isOf_24 : decode cX8_isOf 24 = .ok (.iload_n 0, 1) := by decide +kernel
theorem dX8_isOf_25 : decode cX8_isOf 25 = .ok (.iconst 5, 1) := by decide +kernel
theorem dX8_isOf_26 : decode cX8_isOf 26 = .ok (.if_icmp .ne 7, 3) := by decide +kernel
theorem dX8_isOf_29 : decode cX8_isOf 29 = .ok (.iconst 1, 1) := by decide +kernel
theorem dX8_isOf_30 : decode cX8_isOf 30 = .ok (.goto 4, 3) := by decide +kernel
theorem dX8_isOf_33 : decode cX8_isOf 33 = .ok (.iconst 0, 1) := by decide +kernel
theorem dX8_isOf_34 : decode cX8_isOf 34 = .ok (.ireturn, 1) := by decide +kernel
theorem dX8_kind_0 : decode cX8_kind 0 = .ok (.aload_n 0, 1) := by decide +kernel
theorem dX8_kind_1 : decode cX8_kind 1 = .ok (.iconst 0, 1) := by decide +kernel
theorem dX8_kind_2 : decode cX8_kind 2 = .ok (.putfield 68, 3) := by decide +kernel
theorem dX8_kind_5 : decode cX8_kind 5 = .ok (.aload_n 0, 1) := by decide +kernel
theorem dX8_kind_6 : decode cX8_kind 6 = .ok (.iload_n 1, 1) := by decide +kernel
theorem dX8_kind_7 : decode cX8_kind 7 = .ok (.invokevirtual 232, 3) := by decide +kernel
theorem dX8_kind_10 : decode cX8_kind 10 = .ok (.ifCond .eq 12, 3) := by decide +kernel
theorem dX8_kind_13 : decode cX8_kind 13 = .ok (.aload_n 0, 1) := by decide +kernel
theorem dX8_kind_14 : decode cX8_kind 14 = .ok (.iload_n 1, 1) := by decide +kernel
theorem dX8_kind_15 : decode cX8_kind 15 = .ok (.iconst 0, 1) := by decide +kernel
theorem dX8_kind_16 : decode cX8_kind 16 = .ok (.invokevirtual 237, 3) := by decide +kernel
theorem dX8_kind_19 : decode cX8_kind 19 = .ok (.goto 5, 3) := by decide +kernel
theorem dX8_kind_22 : decode cX8_kind 22 = .ok (.ldc 88, 2) := by decide +kernel
theorem dX8_kind_24 : decode cX8_kind 24 = .ok (.ireturn, 1) := by decide +kernel
theorem dX8_as_0 : decode cX8_as 0 = .ok (.aload_n 0, 1) := by decide +kernel
theorem dX8_as_1 : decode cX8_as 1 = .ok (.iconst 0, 1) := by decide +kernel
theorem dX8_as_2 : decode cX8_as 2 = .ok (.putfield 68, 3) := by decide +kernel
theorem dX8_as_5 : decode cX8_as 5 = .ok (.aload_n 0, 1) := by decide +kernel
theorem dX8_as_6 : decode cX8_as 6 = .ok (.iload_n 1, 1) := by decide +kernel
theorem dX8_as_7 : decode cX8_as 7 = .ok (.invokevirtual 232, 3) := by decide +kernel
theorem dX8_as_10 : decode cX8_as 10 = .ok (.ifCond .eq 15, 3) := by decide +kernel
theorem dX8_as_13 : decode cX8_as 13 = .ok (.iload_n 2, 1) := by decide +kernel
theorem dX8_as_14 : decode cX8_as 14 = .ok (.i2l, 1) := by decide +kernel
theorem dX8_as_15 : decode cX8_as 15 = .ok (.lconst 0, 1) := by decide +kernel
theorem dX8_as_16 : decode cX8_as 16 = .ok (.ldc2_w 328, 3) := by decide +kernel
theorem dX8_as_19 : decode cX8_as 19 = .ok (.invokestatic 78, 3) := by decide +kernel
theorem dX8_as_22 : decode cX8_as 22 = .ok (.ifCond .ne 6, 3) := by decide +kernel
theorem dX8_as_25 : decode cX8_as 25 = .ok (.ldc 88, 2) := by decide +kernel
theorem dX8_as_27 : decode cX8_as 27 = .ok (.ireturn, 1) := by decide +kernel
theorem dX8_as_28 : decode cX8_as 28 = .ok (.aload_n 0, 1) := by decide +kernel
theorem dX8_as_29 : decode cX8_as 29 = .ok (.iconst 0, 1) := by decide +kernel
theorem dX8_as_30 : decode cX8_as 30 = .ok (.putfield 72, 3) := by decide +kernel
theorem dX8_as_33 : decode cX8_as 33 = .ok (.aload_n 0, 1) := by decide +kernel
theorem dX8_as_34 : decode cX8_as 34 = .ok (.iload_n 1, 1) := by decide +kernel
theorem dX8_as_35 : decode cX8_as 35 = .ok (.iconst 0, 1) := by decide +kernel
theorem dX8_as_36 : decode cX8_as 36 = .ok (.invokevirtual 237, 3) := by decide +kernel
theorem dX8_as_39 : decode cX8_as 39 = .ok (.iload_n 2, 1) := by decide +kernel
theorem dX8_as_40 : decode cX8_as 40 = .ok (.invokestatic 330, 3) := by decide +kernel
theorem dX8_as_43 : decode cX8_as 43 = .ok (.ifCond .eq 7, 3) := by decide +kernel
theorem dX8_as_46 : decode cX8_as 46 = .ok (.iload_n 1, 1) := by decide +kernel
theorem dX8_as_47 : decode cX8_as 47 = .ok (.goto 8, 3) := by decide +kernel
theorem dX8_as_50 : decode cX8_as 50 = .ok (.aload_n 0, 1) := by decide +kernel
theorem dX8_as_51 : decode cX8_as 51 = .ok (.iconst 3, 1) := by decide +kernel
theorem dX8_as_52 : decode cX8_as 52 = .ok (.invokevirtual 89, 3) := by decide +kernel
theorem dX8_as_55 : decode cX8_as 55 = .ok (.ireturn, 1) := by decide +kernel
theorem dX8_began_0 : decode cX8_began 0 = .ok (.aload_n 0, 1) := by decide +kernel
theorem dX8_began_1 : decode cX8_began 1 = .ok (.getfield 333, 3) := by decide +kernel
theorem dX8_began_4 : decode cX8_began 4 = .ok (.bipush 16, 2) := by decide +kernel
theorem dX8_began_6 : decode cX8_began 6 = .ok (.if_icmp .ge 23, 3) := by decide +kernel
theorem dX8_began_9 : decode cX8_began 9 = .ok (.aload_n 0, 1) := by decide +kernel
theorem dX8_began_10 : decode cX8_began 10 = .ok (.getfield 65, 3) := by decide +kernel
theorem dX8_began_13 : decode cX8_began 13 = .ok (.aload_n 0, 1) := by decide +kernel
theorem dX8_began_14 : decode cX8_began 14 = .ok (.getfield 333, 3) := by decide +kernel
theorem dX8_began_17 : decode cX8_began 17 = .ok (.iload_n 1, 1) := by decide +kernel
theorem dX8_began_18 : decode cX8_began 18 = .ok (.iastore, 1) := by decide +kernel
theorem dX8_began_19 : decode cX8_began 19 = .ok (.aload_n 0, 1) := by decide +kernel
theorem dX8_began_20 : decode cX8_began 20 = .ok (.dup, 1) := by decide +kernel
theorem dX8_began_21 : decode cX8_began 21 = .ok (.getfield 333, 3) := by decide +kernel
theorem dX8_began_24 : decode cX8_began 24 = .ok (.iconst 1, 1) := by decide +kernel
theorem dX8_began_25 : decode cX8_began 25 = .ok (.iadd, 1) := by decide +kernel
theorem dX8_began_26 : decode cX8_began 26 = .ok (.putfield 333, 3) := by decide +kernel
theorem dX8_began_29 : decode cX8_began 29 = .ok (.return_, 1) := by decide +kernel
theorem dX8_plainSize_0 : decode cX8_plainSize 0 = .ok (.aload_n 0, 1) := by decide +kernel
theorem dX8_plainSize_1 : decode cX8_plainSize 1 = .ok (.bipush 10, 2) := by decide +kernel
theorem dX8_plainSize_3 : decode cX8_plainSize 3 = .ok (.invokevirtual 336, 3) := by decide +kernel
theorem dX8_plainSize_6 : decode cX8_plainSize 6 = .ok (.aload_n 0, 1) := by decide +kernel
theorem dX8_plainSize_7 : decode cX8_plainSize 7 = .ok (.iload_n 1, 1) := by decide +kernel
theorem dX8_plainSize_8 : decode cX8_plainSize 8 = .ok (.iconst 2, 1) := by decide +kernel
theorem dX8_plainSize_9 : decode cX8_plainSize 9 = .ok (.invokevirtual 237, 3) := by decide +kernel
theorem dX8_plainSize_12 : decode cX8_plainSize 12 = .ok (.ireturn, 1) := by decide +kernel
theorem dX8_sickSize_0 : decode cX8_sickSize 0 = .ok (.aload_n 0, 1) := by decide +kernel
theorem dX8_sickSize_1 : decode cX8_sickSize 1 = .ok (.iload_n 1, 1) := by decide +kernel
theorem dX8_sickSize_2 : decode cX8_sickSize 2 = .ok (.iconst 0, 1) := by decide +kernel
theorem dX8_sickSize_3 : decode cX8_sickSize 3 = .ok (.invokevirtual 237, 3) := by decide +kernel
theorem dX8_sickSize_6 : decode cX8_sickSize 6 = .ok (.iconst 5, 1) := by decide +kernel
theorem dX8_sickSize_7 : decode cX8_sickSize 7 = .ok (.if_icmp .ne 9, 3) := by decide +kernel
theorem dX8_sickSize_10 : decode cX8_sickSize 10 = .ok (.aload_n 0, 1) := by decide +kernel
theorem dX8_sickSize_11 : decode cX8_sickSize 11 = .ok (.bipush 14, 2) := by decide +kernel
theorem dX8_sickSize_13 : decode cX8_sickSize 13 = .ok (.invokevirtual 336, 3) := by decide +kernel
theorem dX8_sickSize_16 : decode cX8_sickSize 16 = .ok (.aload_n 0, 1) := by decide +kernel
theorem dX8_sickSize_17 : decode cX8_sickSize 17 = .ok (.bipush 13, 2) := by decide +kernel
theorem dX8_sickSize_19 : decode cX8_sickSize 19 = .ok (.invokevirtual 336, 3) := by decide +kernel
theorem dX8_sickSize_22 : decode cX8_sickSize 22 = .ok (.aload_n 0, 1) := by decide +kernel
theorem dX8_sickSize_23 : decode cX8_sickSize 23 = .ok (.iload_n 1, 1) := by decide +kernel
theorem dX8_sickSize_24 : decode cX8_sickSize 24 = .ok (.invokevirtual 339, 3) := by decide +kernel
theorem dX8_sickSize_27 : decode cX8_sickSize 27 = .ok (.bipush 100, 2) := by decide +kernel
theorem dX8_sickSize_29 : decode cX8_sickSize 29 = .ok (.isub, 1) := by decide +kernel
theorem dX8_sickSize_30 : decode cX8_sickSize 30 = .ok (.istore_n 2, 1) := by decide +kernel
theorem dX8_sickSize_31 : decode cX8_sickSize 31 = .ok (.aload_n 0, 1) := by decide +kernel
theorem dX8_sickSize_32 : decode cX8_sickSize 32 = .ok (.iload_n 1, 1) := by decide +kernel
theorem dX8_sickSize_33 : decode cX8_sickSize 33 = .ok (.iconst 0, 1) := by decide +kernel
theorem dX8_sickSize_34 : decode cX8_sickSize 34 = .ok (.invokevirtual 237, 3) := by decide +kernel
theorem dX8_sickSize_37 : decode cX8_sickSize 37 = .ok (.iconst 5, 1) := by decide +kernel
theorem dX8_sickSize_38 : decode cX8_sickSize 38 = .ok (.if_icmp .ne 9, 3) := by decide +kernel
theorem dX8_sickSize_41 : decode cX8_sickSize 41 = .ok (.iconst 2, 1) := by decide +kernel
theorem dX8_sickSize_42 : decode cX8_sickSize 42 = .ok (.iload_n 2, 1) := by decide +kernel
theorem dX8_sickSize_43 : decode cX8_sickSize 43 = .ok (.imul, 1) := by decide +kernel
theorem dX8_sickSize_44 : decode cX8_sickSize 44 = .ok (.goto 4, 3) := by decide +kernel
theorem dX8_sickSize_47 : decode cX8_sickSize 47 = .ok (.iload_n 2, 1) := by decide +kernel
theorem dX8_sickSize_48 : decode cX8_sickSize 48 = .ok (.ireturn, 1) := by decide +kernel
theorem dX8_markOf_0 : decode cX8_markOf 0 = .ok (.aload_n 0, 1) := by decide +kernel
theorem dX8_markOf_1 : decode cX8_markOf 1 = .ok (.iload_n 1, 1) := by decide +kernel
theorem dX8_markOf_2 : decode cX8_markOf 2 = .ok (.iconst 0, 1) := by decide +kernel
theorem dX8_markOf_3 : decode cX8_markOf 3 = .ok (.invokevirtual 237, 3) := by decide +kernel
theorem dX8_markOf_6 : decode cX8_markOf 6 = .ok (.istore_n 2, 1) := by decide +kernel
theorem dX8_markOf_7 : decode cX8_markOf 7 = .ok (.iload_n 2, 1) := by decide +kernel
theorem dX8_markOf_8 : decode cX8_markOf 8 = .ok (.iconst 4, 1) := by decide +kernel
theorem dX8_markOf_9 : decode cX8_markOf 9 = .ok (.if_icmp .lt 23, 3) := by decide +kernel
theorem dX8_markOf_12 : decode cX8_markOf 12 = .ok (.aload_n 0, 1) := by decide +kernel
theorem dX8_markOf_13 : decode cX8_markOf 13 = .ok (.bipush 23, 2) := by decide +kernel
theorem dX8_markOf_15 : decode cX8_markOf 15 = .ok (.invokevirtual 336, 3) := by decide +kernel
theorem dX8_markOf_18 : decode cX8_markOf 18 = .ok (.aload_n 0, 1) := by decide +kernel
theorem dX8_markOf_19 : decode cX8_markOf 19 = .ok (.bipush 20, 2) := by decide +kernel
theorem dX8_markOf_21 : decode cX8_markOf 21 = .ok (.invokevirtual 336, 3) := by decide +kernel
theorem dX8_markOf_24 : decode cX8_markOf 24 = .ok (.iload_n 1, 1) := by decide +kernel
theorem dX8_markOf_25 : decode cX8_markOf 25 = .ok (.aload_n 0, 1) := by decide +kernel
theorem dX8_markOf_26 : decode cX8_markOf 26 = .ok (.iload_n 1, 1) := by decide +kernel
theorem dX8_markOf_27 : decode cX8_markOf 27 = .ok (.invokevirtual 342, 3) := by decide +kernel
theorem dX8_markOf_30 : decode cX8_markOf 30 = .ok (.isub, 1) := by decide +kernel
theorem dX8_markOf_31 : decode cX8_markOf 31 = .ok (.ireturn, 1) := by decide +kernel
theorem dX8_markOf_32 : decode cX8_markOf 32 = .ok (.iload_n 2, 1) := by decide +kernel
theorem dX8_markOf_33 : decode cX8_markOf 33 = .ok (.iconst 1, 1) := by decide +kernel
theorem dX8_markOf_34 : decode cX8_markOf 34 = .ok (.if_icmp .eq 19, 3) := by decide +kernel
theorem dX8_markOf_37 : decode cX8_markOf 37 = .ok (.aload_n 0, 1) := by decide +kernel
theorem dX8_markOf_38 : decode cX8_markOf 38 = .ok (.iload_n 2, 1) := by decide +kernel
theorem dX8_markOf_39 : decode cX8_markOf 39 = .ok (.iconst 2, 1) := by decide +kernel
theorem dX8_markOf_40 : decode cX8_markOf 40 = .ok (.if_icmp .ne 8, 3) := by decide +kernel
theorem dX8_markOf_43 : decode cX8_markOf 43 = .ok (.bipush 22, 2) := by decide +kernel
theorem dX8_markOf_45 : decode cX8_markOf 45 = .ok (.goto 5, 3) := by decide +kernel
theorem dX8_markOf_48 : decode cX8_markOf 48 = .ok (.bipush 24, 2) := by decide +kernel
theorem dX8_markOf_50 : decode cX8_markOf 50 = .ok (.invokevirtual 336, 3) := by decide +kernel
theorem dX8_markOf_53 : decode cX8_markOf 53 = .ok (.aload_n 0, 1) := by decide +kernel
theorem dX8_markOf_54 : decode cX8_markOf 54 = .ok (.bipush 21, 2) := by decide +kernel
theorem dX8_markOf_56 : decode cX8_markOf 56 = .ok (.invokevirtual 336, 3) := by decide +kernel
theorem dX8_markOf_59 : decode cX8_markOf 59 = .ok (.aload_n 0, 1) := by decide +kernel
theorem dX8_markOf_60 : decode cX8_markOf 60 = .ok (.bipush 20, 2) := by decide +kernel
theorem dX8_markOf_62 : decode cX8_markOf 62 = .ok (.invokevirtual 336, 3) := by decide +kernel
theorem dX8_markOf_65 : decode cX8_markOf 65 = .ok (.iload_n 1, 1) := by decide +kernel
theorem dX8_markOf_66 : decode cX8_markOf 66 = .ok (.bipush 10, 2) := by decide +kernel
theorem dX8_markOf_68 : decode cX8_markOf 68 = .ok (.aload_n 0, 1) := by decide +kernel
theorem dX8_markOf_69 : decode cX8_markOf 69 = .ok (.iload_n 1, 1) := by decide +kernel
theorem dX8_markOf_70 : decode cX8_markOf 70 = .ok (.iconst 1, 1) := by decide +kernel
theorem dX8_markOf_71 : decode cX8_markOf 71 = .ok (.invokevirtual 237, 3) := by decide +kernel
theorem dX8_markOf_74 : decode cX8_markOf 74 = .ok (.imul, 1) := by decide +kernel
theorem dX8_markOf_75 : decode cX8_markOf 75 = .ok (.iadd, 1) := by decide +kernel
theorem dX8_markOf_76 : decode cX8_markOf 76 = .ok (.istore_n 3, 1) := by decide +kernel
theorem dX8_markOf_77 : decode cX8_markOf 77 = .ok (.iload_n 2, 1) := by decide +kernel
theorem dX8_markOf_78 : decode cX8_markOf 78 = .ok (.iconst 1, 1) := by decide +kernel
theorem dX8_markOf_79 : decode cX8_markOf 79 = .ok (.if_icmp .ne 7, 3) := by decide +kernel
theorem dX8_markOf_82 : decode cX8_markOf 82 = .ok (.iload_n 3, 1) := by decide +kernel
theorem dX8_markOf_83 : decode cX8_markOf 83 = .ok (.goto 19, 3) := by decide +kernel
theorem dX8_markOf_86 : decode cX8_markOf 86 = .ok (.iload_n 2, 1) := by decide +kernel
theorem dX8_markOf_87 : decode cX8_markOf 87 = .ok (.iconst 2, 1) := by decide +kernel
theorem dX8_markOf_88 : decode cX8_markOf 88 = .ok (.if_icmp .ne 11, 3) := by decide +kernel
theorem dX8_markOf_91 : decode cX8_markOf 91 = .ok (.iload_n 3, 1) := by decide +kernel
theorem dX8_markOf_92 : decode cX8_markOf 92 = .ok (.sipush 1000, 3) := by decide +kernel
theorem dX8_markOf_95 : decode cX8_markOf 95 = .ok (.isub, 1) := by decide +kernel
theorem dX8_markOf_96 : decode cX8_markOf 96 = .ok (.goto 6, 3) := by decide +kernel
theorem dX8_markOf_99 : decode cX8_markOf 99 = .ok (.iconst 2, 1) := by decide +kernel
theorem dX8_markOf_100 : decode cX8_markOf 100 = .ok (.iload_n 3, 1) := by decide +kernel
theorem dX8_markOf_101 : decode cX8_markOf 101 = .ok (.imul, 1) := by decide +kernel
theorem dX8_markOf_102 : decode cX8_markOf 102 = .ok (.ireturn, 1) := by decide +kernel
theorem dX8_sizeOf_0 : decode cX8_sizeOf 0 = .ok (.aload_n 0, 1) := by decide +kernel
theorem dX8_sizeOf_1 : decode cX8_sizeOf 1 = .ok (.iload_n 1, 1) := by decide +kernel
theorem dX8_sizeOf_2 : decode cX8_sizeOf 2 = .ok (.iconst 0, 1) := by decide +kernel
theorem dX8_sizeOf_3 : decode cX8_sizeOf 3 = .ok (.invokevirtual 237, 3) := by decide +kernel
theorem dX8_sizeOf_6 : decode cX8_sizeOf 6 = .ok (.istore_n 2, 1) := by decide +kernel
theorem dX8_sizeOf_7 : decode cX8_sizeOf 7 = .ok (.iload_n 2, 1) := by decide +kernel
theorem dX8_sizeOf_8 : decode cX8_sizeOf 8 = .ok (.iconst 4, 1) := by decide +kernel
theorem dX8_sizeOf_9 : decode cX8_sizeOf 9 = .ok (.if_icmp .lt 9, 3) := by decide +kernel
theorem dX8_sizeOf_12 : decode cX8_sizeOf 12 = .ok (.aload_n 0, 1) := by decide +kernel
theorem dX8_sizeOf_13 : decode cX8_sizeOf 13 = .ok (.iload_n 1, 1) := by decide +kernel
theorem dX8_sizeOf_14 : decode cX8_sizeOf 14 = .ok (.invokevirtual 342, 3) := by decide +kernel
theorem dX8_sizeOf_17 : decode cX8_sizeOf 17 = .ok (.ireturn, 1) := by decide +kernel
theorem dX8_sizeOf_18 : decode cX8_sizeOf 18 = .ok (.iload_n 2, 1) := by decide +kernel
theorem dX8_sizeOf_19 : decode cX8_sizeOf 19 = .ok (.iconst 3, 1) := by decide +kernel
theorem dX8_sizeOf_20 : decode cX8_sizeOf 20 = .ok (.if_icmp .ne 9, 3) := by decide +kernel
theorem dX8_sizeOf_23 : decode cX8_sizeOf 23 = .ok (.aload_n 0, 1) := by decide +kernel
theorem dX8_sizeOf_24 : decode cX8_sizeOf 24 = .ok (.bipush 12, 2) := by decide +kernel
theorem dX8_sizeOf_26 : decode cX8_sizeOf 26 = .ok (.invokevirtual 336, 3) := by decide +kernel
theorem dX8_sizeOf_29 : decode cX8_sizeOf 29 = .ok (.aload_n 0, 1) := by decide +kernel
theorem dX8_sizeOf_30 : decode cX8_sizeOf 30 = .ok (.bipush 11, 2) := by decide +kernel
theorem dX8_sizeOf_32 : decode cX8_sizeOf 32 = .ok (.invokevirtual 336, 3) := by decide +kernel
theorem dX8_sizeOf_35 : decode cX8_sizeOf 35 = .ok (.aload_n 0, 1) := by decide +kernel
theorem dX8_sizeOf_36 : decode cX8_sizeOf 36 = .ok (.iload_n 1, 1) := by decide +kernel
theorem dX8_sizeOf_37 : decode cX8_sizeOf 37 = .ok (.invokevirtual 339, 3) := by decide +kernel
theorem dX8_sizeOf_40 : decode cX8_sizeOf 40 = .ok (.istore_n 3, 1) := by decide +kernel
theorem dX8_sizeOf_41 : decode cX8_sizeOf 41 = .ok (.iload_n 3, 1) := by decide +kernel
theorem dX8_sizeOf_42 : decode cX8_sizeOf 42 = .ok (.aload_n 0, 1) := by decide +kernel
theorem dX8_sizeOf_43 : decode cX8_sizeOf 43 = .ok (.iload_n 1, 1) := by decide +kernel
theorem dX8_sizeOf_44 : decode cX8_sizeOf 44 = .ok (.invokevirtual 345, 3) := by decide +kernel
theorem dX8_sizeOf_47 : decode cX8_sizeOf 47 = .ok (.iadd, 1) := by decide +kernel
theorem dX8_sizeOf_48 : decode cX8_sizeOf 48 = .ok (.istore_n 3, 1) := by decide +kernel
theorem dX8_sizeOf_49 : decode cX8_sizeOf 49 = .ok (.iload_n 2, 1) := by decide +kernel
theorem dX8_sizeOf_50 : decode cX8_sizeOf 50 = .ok (.iconst 3, 1) := by decide +kernel
theorem dX8_sizeOf_51 : decode cX8_sizeOf 51 = .ok (.if_icmp .ne 8, 3) := by decide +kernel
theorem dX8_sizeOf_54 : decode cX8_sizeOf 54 = .ok (.iload_n 3, 1) := by decide +kernel
theorem dX8_sizeOf_55 : decode cX8_sizeOf 55 = .ok (.ineg, 1) := by decide +kernel
theorem dX8_sizeOf_56 : decode cX8_sizeOf 56 = .ok (.goto 4, 3) := by decide +kernel
theorem dX8_sizeOf_59 : decode cX8_sizeOf 59 = .ok (.iload_n 3, 1) := by decide +kernel
theorem dX8_sizeOf_60 : decode cX8_sizeOf 60 = .ok (.ireturn, 1) := by decide +kernel
theorem dX8_ask_0 : decode cX8_ask 0 = .ok (.aload_n 0, 1) := by decide +kernel
theorem dX8_ask_1 : decode cX8_ask 1 = .ok (.iconst 0, 1) := by decide +kernel
theorem dX8_ask_2 : decode cX8_ask 2 = .ok (.putfield 68, 3) := by decide +kernel
theorem dX8_ask_5 : decode cX8_ask 5 = .ok (.aload_n 0, 1) := by decide +kernel
theorem dX8_ask_6 : decode cX8_ask 6 = .ok (.iload_n 1, 1) := by decide +kernel
theorem dX8_ask_7 : decode cX8_ask 7 = .ok (.invokevirtual 232, 3) := by decide +kernel
theorem dX8_ask_10 : decode cX8_ask 10 = .ok (.ifCond .eq 13, 3) := by decide +kernel
theorem dX8_ask_13 : decode cX8_ask 13 = .ok (.iload_n 2, 1) := by decide +kernel
theorem dX8_ask_14 : decode cX8_ask 14 = .ok (.i2l, 1) := by decide +kernel
theorem dX8_ask_15 : decode cX8_ask 15 = .ok (.lconst 0, 1) := by decide +kernel
theorem dX8_ask_16 : decode cX8_ask 16 = .ok (.lconst 1, 1) := by decide +kernel
theorem dX8_ask_17 : decode cX8_ask 17 = .ok (.invokestatic 78, 3) := by decide +kernel
theorem dX8_ask_20 : decode cX8_ask 20 = .ok (.ifCond .ne 6, 3) := by decide +kernel
theorem dX8_ask_23 : decode cX8_ask 23 = .ok (.ldc 88, 2) := by decide +kernel
theorem dX8_ask_25 : decode cX8_ask 25 = .ok (.ireturn, 1) := by decide +kernel
theorem dX8_ask_26 : decode cX8_ask 26 = .ok (.aload_n 0, 1) := by decide +kernel
theorem dX8_ask_27 : decode cX8_ask 27 = .ok (.iconst 0, 1) := by decide +kernel
theorem dX8_ask_28 : decode cX8_ask 28 = .ok (.putfield 333, 3) := by decide +kernel
theorem dX8_ask_31 : decode cX8_ask 31 = .ok (.iload_n 2, 1) := by decide +kernel
theorem dX8_ask_32 : decode cX8_ask 32 = .ok (.ifCond .ne 11, 3) := by decide +kernel
theorem dX8_ask_35 : decode cX8_ask 35 = .ok (.aload_n 0, 1) := by decide +kernel
theorem dX8_ask_36 : decode cX8_ask 36 = .ok (.iload_n 1, 1) := by decide +kernel
theorem dX8_ask_37 : decode cX8_ask 37 = .ok (.invokevirtual 348, 3) := by decide +kernel
theorem dX8_ask_40 : decode cX8_ask 40 = .ok (.goto 8, 3) := by decide +kernel
theorem dX8_ask_43 : decode cX8_ask 43 = .ok (.aload_n 0, 1) := by decide +kernel
theorem dX8_ask_44 : decode cX8_ask 44 = .ok (.iload_n 1, 1) := by decide +kernel
theorem dX8_ask_45 : decode cX8_ask 45 = .ok (.invokevirtual 345, 3) := by decide +kernel
theorem dX8_ask_48 : decode cX8_ask 48 = .ok (.ireturn, 1) := by decide +kernel
theorem dX8_trace_0 : decode cX8_trace 0 = .ok (.aload_n 0, 1) := by decide +kernel
theorem dX8_trace_1 : decode cX8_trace 1 = .ok (.iconst 0, 1) := by decide +kernel
theorem dX8_trace_2 : decode cX8_trace 2 = .ok (.putfield 68, 3) := by decide +kernel
theorem dX8_trace_5 : decode cX8_trace 5 = .ok (.iload_n 1, 1) := by decide +kernel
theorem dX8_trace_6 : decode cX8_trace 6 = .ok (.i2l, 1) := by decide +kernel
theorem dX8_trace_7 : decode cX8_trace 7 = .ok (.lconst 0, 1) := by decide +kernel
theorem dX8_trace_8 : decode cX8_trace 8 = .ok (.aload_n 0, 1) := by decide +kernel
theorem dX8_trace_9 : decode cX8_trace 9 = .ok (.getfield 333, 3) := by decide +kernel
theorem dX8_trace_12 : decode cX8_trace 12 = .ok (.iconst 1, 1) := by decide +kernel
theorem dX8_trace_13 : decode cX8_trace 13 = .ok (.isub, 1) := by decide +kernel
theorem dX8_trace_14 : decode cX8_trace 14 = .ok (.i2l, 1) := by decide +kernel
theorem dX8_trace_15 : decode cX8_trace 15 = .ok (.invokestatic 78, 3) := by decide +kernel
theorem dX8_trace_18 : decode cX8_trace 18 = .ok (.ifCond .eq 12, 3) := by decide +kernel
theorem dX8_trace_21 : decode cX8_trace 21 = .ok (.aload_n 0, 1) := by decide +kernel
theorem dX8_trace_22 : decode cX8_trace 22 = .ok (.getfield 65, 3) := by decide +kernel
theorem dX8_trace_25 : decode cX8_trace 25 = .ok (.iload_n 1, 1) := by decide +kernel
theorem dX8_trace_26 : decode cX8_trace 26 = .ok (.iaload, 1) := by decide +kernel
theorem dX8_trace_27 : decode cX8_trace 27 = .ok (.goto 5, 3) := by decide +kernel
theorem dX8_trace_30 : decode cX8_trace 30 = .ok (.ldc 104, 2) := by decide +kernel
theorem dX8_trace_32 : decode cX8_trace 32 = .ok (.ireturn, 1) := by decide +kernel
theorem dX8_count_0 : decode cX8_count 0 = .ok (.aload_n 0, 1) := by decide +kernel
theorem dX8_count_1 : decode cX8_count 1 = .ok (.iconst 0, 1) := by decide +kernel
theorem dX8_count_2 : decode cX8_count 2 = .ok (.putfield 68, 3) := by decide +kernel
theorem dX8_count_5 : decode cX8_count 5 = .ok (.iconst 0, 1) := by decide +kernel
theorem dX8_count_6 : decode cX8_count 6 = .ok (.istore_n 2, 1) := by decide +kernel
theorem dX8_count_7 : decode cX8_count 7 = .ok (.iload_n 1, 1) := by decide +kernel
theorem dX8_count_8 : decode cX8_count 8 = .ok (.tableswitch 127 0 6 #[44, 77, 77, 77, 88, 93, 122], 44) := by decide +kernel
theorem dX8_count_52 : decode cX8_count 52 = .ok (.iconst 0, 1) := by decide +kernel
theorem dX8_count_53 : decode cX8_count 53 = .ok (.istore_n 3, 1) := by decide +kernel
theorem dX8_count_54 : decode cX8_count 54 = .ok (.iload_n 3, 1) := by decide +kernel
theorem dX8_count_55 : decode cX8_count 55 = .ok (.bipush 8, 2) := by decide +kernel
theorem dX8_count_57 : decode cX8_count 57 = .ok (.if_icmp .ge 26, 3) := by decide +kernel
theorem dX8_count_60 : decode cX8_count 60 = .ok (.iload_n 2, 1) := by decide +kernel
theorem dX8_count_61 : decode cX8_count 61 = .ok (.aload_n 0, 1) := by decide +kernel
theorem dX8_count_62 : decode cX8_count 62 = .ok (.getfield 7, 3) := by decide +kernel
theorem dX8_count_65 : decode cX8_count 65 = .ok (.iload_n 3, 1) := by decide +kernel
theorem dX8_count_66 : decode cX8_count 66 = .ok (.iaload, 1) := by decide +kernel
theorem dX8_count_67 : decode cX8_count 67 = .ok (.ifCond .lt 7, 3) := by decide +kernel
theorem dX8_count_70 : decode cX8_count 70 = .ok (.iconst 1, 1) := by decide +kernel
theorem dX8_count_71 : decode cX8_count 71 = .ok (.goto 4, 3) := by decide +kernel
theorem dX8_count_74 : decode cX8_count 74 = .ok (.iconst 0, 1) := by decide +kernel
theorem dX8_count_75 : decode cX8_count 75 = .ok (.iadd, 1) := by decide +kernel
theorem dX8_count_76 : decode cX8_count 76 = .ok (.istore_n 2, 1) := by decide +kernel
theorem dX8_count_77 : decode cX8_count 77 = .ok (.iinc 3 1, 3) := by decide +kernel
theorem dX8_count_80 : decode cX8_count 80 = .ok (.goto (-26), 3) := by decide +kernel
theorem dX8_count_83 : decode cX8_count 83 = .ok (.iload_n 2, 1) := by decide +kernel
theorem dX8_count_84 : decode cX8_count 84 = .ok (.ireturn, 1) := by decide +kernel
theorem dX8_count_85 : decode cX8_count 85 = .ok (.aload_n 0, 1) := by decide +kernel
theorem dX8_count_86 : decode cX8_count 86 = .ok (.getfield 19, 3) := by decide +kernel
theorem dX8_count_89 : decode cX8_count 89 = .ok (.iconst 4, 1) := by decide +kernel
theorem dX8_count_90 : decode cX8_count 90 = .ok (.iload_n 1, 1) := by decide +kernel
theorem dX8_count_91 : decode cX8_count 91 = .ok (.iadd, 1) := by decide +kernel
theorem dX8_count_92 : decode cX8_count 92 = .ok (.iconst 1, 1) := by decide +kernel
theorem dX8_count_93 : decode cX8_count 93 = .ok (.isub, 1) := by decide +kernel
theorem dX8_count_94 : decode cX8_count 94 = .ok (.iaload, 1) := by decide +kernel
theorem dX8_count_95 : decode cX8_count 95 = .ok (.ireturn, 1) := by decide +kernel
theorem dX8_count_96 : decode cX8_count 96 = .ok (.aload_n 0, 1) := by decide +kernel
theorem dX8_count_97 : decode cX8_count 97 = .ok (.getfield 221, 3) := by decide +kernel
theorem dX8_count_100 : decode cX8_count 100 = .ok (.ireturn, 1) := by decide +kernel
theorem dX8_count_101 : decode cX8_count 101 = .ok (.iconst 0, 1) := by decide +kernel
theorem dX8_count_102 : decode cX8_count 102 = .ok (.istore_n 3, 1) := by decide +kernel
theorem dX8_count_103 : decode cX8_count 103 = .ok (.iload_n 3, 1) := by decide +kernel
theorem dX8_count_104 : decode cX8_count 104 = .ok (.aload_n 0, 1) := by decide +kernel
theorem dX8_count_105 : decode cX8_count 105 = .ok (.getfield 19, 3) := by decide +kernel
theorem dX8_count_108 : decode cX8_count 108 = .ok (.iconst 4, 1) := by decide +kernel
theorem dX8_count_109 : decode cX8_count 109 = .ok (.iaload, 1) := by decide +kernel
theorem dX8_count_110 : decode cX8_count 110 = .ok (.if_icmp .ge 18, 3) := by decide +kernel
theorem dX8_count_113 : decode cX8_count 113 = .ok (.iload_n 2, 1) := by decide +kernel
theorem dX8_count_114 : decode cX8_count 114 = .ok (.aload_n 0, 1) := by decide +kernel
theorem dX8_count_115 : decode cX8_count 115 = .ok (.iload_n 3, 1) := by decide +kernel
theorem dX8_count_116 : decode cX8_count 116 = .ok (.iconst 2, 1) := by decide +kernel
theorem dX8_count_117 : decode cX8_count 117 = .ok (.invokevirtual 237, 3) := by decide +kernel
theorem dX8_count_120 : decode cX8_count 120 = .ok (.iadd, 1) := by decide +kernel
theorem dX8_count_121 : decode cX8_count 121 = .ok (.istore_n 2, 1) := by decide +kernel
theorem dX8_count_122 : decode cX8_count 122 = .ok (.iinc 3 1, 3) := by decide +kernel
theorem dX8_count_125 : decode cX8_count 125 = .ok (.goto (-22), 3) := by decide +kernel
theorem dX8_count_128 : decode cX8_count 128 = .ok (.iload_n 2, 1) := by decide +kernel
theorem dX8_count_129 : decode cX8_count 129 = .ok (.ireturn, 1) := by decide +kernel
theorem dX8_count_130 : decode cX8_count 130 = .ok (.aload_n 0, 1) := by decide +kernel
theorem dX8_count_131 : decode cX8_count 131 = .ok (.getfield 95, 3) := by decide +kernel
theorem dX8_count_134 : decode cX8_count 134 = .ok (.ireturn, 1) := by decide +kernel
theorem dX8_count_135 : decode cX8_count 135 = .ok (.ldc 88, 2) := by decide +kernel
theorem dX8_count_137 : decode cX8_count 137 = .ok (.ireturn, 1) := by decide +kernel
theorem dX8_status_0 : decode cX8_status 0 = .ok (.aload_n 0, 1) := by decide +kernel
theorem dX8_status_1 : decode cX8_status 1 = .ok (.iconst 0, 1) := by decide +kernel
theorem dX8_status_2 : decode cX8_status 2 = .ok (.putfield 68, 3) := by decide +kernel
theorem dX8_status_5 : decode cX8_status 5 = .ok (.aload_n 0, 1) := by decide +kernel
theorem dX8_status_6 : decode cX8_status 6 = .ok (.getfield 72, 3) := by decide +kernel
theorem dX8_status_9 : decode cX8_status 9 = .ok (.ireturn, 1) := by decide +kernel
