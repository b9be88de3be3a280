theorem dX5_init_0 : decode cX5_init 0 = .ok (.aload_n 0, 1) := by decide +kernel
theorem dX5_init_1 : decode cX5_init 1 = .ok (.invokespecial 3, 3) := by decide +kernel
theorem dX5_init_4 : decode cX5_init 4 = .ok (.aload_n 0, 1) := by decide +kernel
theorem dX5_init_5 : decode cX5_init 5 = .ok (.iconst 3, 1) := by decide +kernel
theorem dX5_init_6 : decode cX5_init 6 = .ok (.anewarray 9, 3) := by decide +kernel
theorem dX5_init_9 : decode cX5_init 9 = .ok (.putfield 11, 3) := by decide +kernel
theorem dX5_init_12 : decode cX5_init 12 = .ok (.aload_n 0, 1) := by decide +kernel
theorem dX5_init_13 : decode cX5_init 13 = .ok (.new 15, 3) := by decide +kernel
theorem dX5_init_16 : decode cX5_init 16 = .ok (.dup, 1) := by decide +kernel
theorem dX5_init_17 : decode cX5_init 17 = .ok (.invokespecial 17, 3) := by decide +kernel
theorem dX5_init_20 : decode cX5_init 20 = .ok (.putfield 18, 3) := by decide +kernel
theorem dX5_init_23 : decode cX5_init 23 = .ok (.aload_n 0, 1) := by decide +kernel
theorem dX5_init_24 : decode cX5_init 24 = .ok (.new 15, 3) := by decide +kernel
theorem dX5_init_27 : decode cX5_init 27 = .ok (.dup, 1) := by decide +kernel
theorem dX5_init_28 : decode cX5_init 28 = .ok (.invokespecial 17, 3) := by decide +kernel
theorem dX5_init_31 : decode cX5_init 31 = .ok (.putfield 22, 3) := by decide +kernel
theorem dX5_init_34 : decode cX5_init 34 = .ok (.aload_n 0, 1) := by decide +kernel
theorem dX5_init_35 : decode cX5_init 35 = .ok (.aload_n 0, 1) := by decide +kernel
theorem dX5_init_36 : decode cX5_init 36 = .ok (.getfield 18, 3) := by decide +kernel
theorem dX5_init_39 : decode cX5_init 39 = .ok (.getfield 25, 3) := by decide +kernel
theorem dX5_init_42 : decode cX5_init 42 = .ok (.putfield 29, 3) := by decide +kernel
theorem dX5_init_45 : decode cX5_init 45 = .ok (.aload_n 0, 1) := by decide +kernel
theorem dX5_init_46 : decode cX5_init 46 = .ok (.aload_n 0, 1) := by decide +kernel
theorem dX5_init_47 : decode cX5_init 47 = .ok (.getfield 22, 3) := by decide +kernel
theorem dX5_init_50 : decode cX5_init 50 = .ok (.getfield 25, 3) := by decide +kernel
theorem dX5_init_53 : decode cX5_init 53 = .ok (.putfield 30, 3) := by decide +kernel
theorem dX5_init_56 : decode cX5_init 56 = .ok (.aload_n 0, 1) := by decide +kernel
theorem dX5_init_57 : decode cX5_init 57 = .ok (.sipush 512, 3) := by decide +kernel
theorem dX5_init_60 : decode cX5_init 60 = .ok (.newarray .int, 2) := by decide +kernel
theorem dX5_init_62 : decode cX5_init 62 = .ok (.putfield 33, 3) := by decide +kernel
theorem dX5_init_65 : decode cX5_init 65 = .ok (.aload_n 0, 1) := by decide +kernel
theorem dX5_init_66 : decode cX5_init 66 = .ok (.bipush 48, 2) := by decide +kernel
theorem dX5_init_68 : decode cX5_init 68 = .ok (.newarray .int, 2) := by decide +kernel
theorem dX5_init_70 : decode cX5_init 70 = .ok (.putfield 37, 3) := by decide +kernel
theorem dX5_init_73 : decode cX5_init 73 = .ok (.aload_n 0, 1) := by decide +kernel
theorem dX5_init_74 : decode cX5_init 74 = .ok (.new 40, 3) := by decide +kernel
theorem dX5_init_77 : decode cX5_init 77 = .ok (.dup, 1) := by decide +kernel
theorem dX5_init_78 : decode cX5_init 78 = .ok (.invokespecial 42, 3) := by decide +kernel
theorem dX5_init_81 : decode cX5_init 81 = .ok (.putfield 43, 3) := by decide +kernel
theorem dX5_init_84 : decode cX5_init 84 = .ok (.aload_n 0, 1) := by decide +kernel
theorem dX5_init_85 : decode cX5_init 85 = .ok (.iconst 4, 1) := by decide +kernel
theorem dX5_init_86 : decode cX5_init 86 = .ok (.anewarray 47, 3) := by decide +kernel
theorem dX5_init_89 : decode cX5_init 89 = .ok (.putfield 49, 3) := by decide +kernel
theorem dX5_init_92 : decode cX5_init 92 = .ok (.aload_n 0, 1) := by decide +kernel
theorem dX5_init_93 : decode cX5_init 93 = .ok (.iconst 0, 1) := by decide +kernel
theorem dX5_init_94 : decode cX5_init 94 = .ok (.putfield 53, 3) := by decide +kernel
theorem dX5_init_97 : decode cX5_init 97 = .ok (.aload_n 0, 1) := by decide +kernel
theorem dX5_init_98 : decode cX5_init 98 = .ok (.iconst 0, 1) := by decide +kernel
theorem dX5_init_99 : decode cX5_init 99 = .ok (.putfield 57, 3) := by decide +kernel
theorem dX5_init_102 : decode cX5_init 102 = .ok (.aload_n 0, 1) := by decide +kernel
theorem dX5_init_103 : decode cX5_init 103 = .ok (.iconst 0, 1) := by decide +kernel
theorem dX5_init_104 : decode cX5_init 104 = .ok (.putfield 60, 3) := by decide +kernel
theorem dX5_init_107 : decode cX5_init 107 = .ok (.aload_n 0, 1) := by decide +kernel
theorem dX5_init_108 : decode cX5_init 108 = .ok (.getfield 11, 3) := by decide +kernel
theorem dX5_init_111 : decode cX5_init 111 = .ok (.iconst 0, 1) := by decide +kernel
theorem dX5_init_112 : decode cX5_init 112 = .ok (.new 9, 3) := by decide +kernel
theorem dX5_init_115 : decode cX5_init 115 = .ok (.dup, 1) := by decide +kernel
theorem dX5_init_116 : decode cX5_init 116 = .ok (.ldc 64, 2) := by decide +kernel
theorem dX5_init_118 : decode cX5_init 118 = .ok (.bipush 39, 2) := by decide +kernel
theorem dX5_init_120 : decode cX5_init 120 = .ok (.newarray .char, 2) := by decide +kernel
theorem dX5_init_122 : decode cX5_init 122 = .ok (.invokespecial 66, 3) := by decide +kernel
theorem dX5_init_125 : decode cX5_init 125 = .ok (.aastore, 1) := by decide +kernel
theorem dX5_init_126 : decode cX5_init 126 = .ok (.aload_n 0, 1) := by decide +kernel
theorem dX5_init_127 : decode cX5_init 127 = .ok (.getfield 11, 3) := by decide +kernel
theorem dX5_init_130 : decode cX5_init 130 = .ok (.iconst 1, 1) := by decide +kernel
theorem dX5_init_131 : decode cX5_init 131 = .ok (.new 9, 3) := by decide +kernel
theorem dX5_init_134 : decode cX5_init 134 = .ok (.dup, 1) := by decide +kernel
theorem dX5_init_135 : decode cX5_init 135 = .ok (.ldc 69, 2) := by decide +kernel
theorem dX5_init_137 : decode cX5_init 137 = .ok (.bipush 23, 2) := by decide +kernel
theorem dX5_init_139 : decode cX5_init 139 = .ok (.newarray .char, 2) := by decide +kernel
theorem dX5_init_141 : decode cX5_init 141 = .ok (.invokespecial 66, 3) := by decide +kernel
theorem dX5_init_144 : decode cX5_init 144 = .ok (.aastore, 1) := by decide +kernel
theorem dX5_init_145 : decode cX5_init 145 = .ok (.aload_n 0, 1) := by decide +kernel
theorem dX5_init_146 : decode cX5_init 146 = .ok (.getfield 11, 3) := by decide +kernel
theorem dX5_init_149 : decode cX5_init 149 = .ok (.iconst 2, 1) := by decide +kernel
theorem dX5_init_150 : decode cX5_init 150 = .ok (.new 9, 3) := by decide +kernel
theorem dX5_init_153 : decode cX5_init 153 = .ok (.dup, 1) := by decide +kernel
theorem dX5_init_154 : decode cX5_init 154 = .ok (.ldc 71, 2) := by decide +kernel
theorem dX5_init_156 : decode cX5_init 156 = .ok (.bipush 35, 2) := by decide +kernel
theorem dX5_init_158 : decode cX5_init 158 = .ok (.newarray .char, 2) := by decide +kernel
theorem dX5_init_160 : decode cX5_init 160 = .ok (.invokespecial 66, 3) := by decide +kernel
theorem dX5_init_163 : decode cX5_init 163 = .ok (.aastore, 1) := by decide +kernel
theorem dX5_init_164 : decode cX5_init 164 = .ok (.iconst 0, 1) := by decide +kernel
theorem dX5_init_165 : decode cX5_init 165 = .ok (.istore_n 1, 1) := by decide +kernel
theorem dX5_init_166 : decode cX5_init 166 = .ok (.iload_n 1, 1) := by decide +kernel
theorem dX5_init_167 : decode cX5_init 167 = .ok (.iconst 4, 1) := by decide +kernel
theorem dX5_init_168 : decode cX5_init 168 = .ok (.if_icmp .ge 22, 3) := by decide +kernel
theorem dX5_init_171 : decode cX5_init 171 = .ok (.aload_n 0, 1) := by decide +kernel
theorem dX5_init_172 : decode cX5_init 172 = .ok (.getfield 49, 3) := by decide +kernel
theorem dX5_init_175 : decode cX5_init 175 = .ok (.iload_n 1, 1) := by decide +kernel
theorem dX5_init_176 : decode cX5_init 176 = .ok (.new 47, 3) := by decide +kernel
theorem dX5_init_179 : decode cX5_init 179 = .ok (.dup, 1) := by decide +kernel
theorem dX5_init_180 : decode cX5_init 180 = .ok (.invokespecial 73, 3) := by decide +kernel
theorem dX5_init_183 : decode cX5_init 183 = .ok (.aastore, 1) := by decide +kernel
theorem dX5_init_184 : decode cX5_init 184 = .ok (.iinc 1 1, 3) := by decide +kernel
theorem dX5_init_187 : decode cX5_init 187 = .ok (.goto (-21), 3) := by decide +kernel
theorem dX5_init_190 : decode cX5_init 190 = .ok (.return_, 1) := by decide +kernel
theorem dX5_type_0 : decode cX5_type 0 = .ok (.iload_n 1, 1) := by decide +kernel
theorem dX5_type_1 : decode cX5_type 1 = .ok (.invokestatic 74, 3) := by decide +kernel
theorem dX5_type_4 : decode cX5_type 4 = .ok (.ifCond .eq 14, 3) := by decide +kernel
theorem dX5_type_7 : decode cX5_type 7 = .ok (.iload_n 2, 1) := by decide +kernel
theorem dX5_type_8 : decode cX5_type 8 = .ok (.ifCond .lt 10, 3) := by decide +kernel
theorem dX5_type_11 : decode cX5_type 11 = .ok (.iload_n 2, 1) := by decide +kernel
theorem dX5_type_12 : decode cX5_type 12 = .ok (.sipush 255, 3) := by decide +kernel
theorem dX5_type_15 : decode cX5_type 15 = .ok (.if_icmp .le 6, 3) := by decide +kernel
theorem dX5_type_18 : decode cX5_type 18 = .ok (.bipush (-2), 2) := by decide +kernel
theorem dX5_type_20 : decode cX5_type 20 = .ok (.ireturn, 1) := by decide +kernel
theorem dX5_type_21 : decode cX5_type 21 = .ok (.aload_n 0, 1) := by decide +kernel
theorem dX5_type_22 : decode cX5_type 22 = .ok (.getfield 11, 3) := by decide +kernel
theorem dX5_type_25 : decode cX5_type 25 = .ok (.iload_n 1, 1) := by decide +kernel
theorem dX5_type_26 : decode cX5_type 26 = .ok (.aaload, 1) := by decide +kernel
theorem dX5_type_27 : decode cX5_type 27 = .ok (.astore_n 3, 1) := by decide +kernel
theorem dX5_type_28 : decode cX5_type 28 = .ok (.aload_n 3, 1) := by decide +kernel
theorem dX5_type_29 : decode cX5_type 29 = .ok (.getfield 78, 3) := by decide +kernel
theorem dX5_type_32 : decode cX5_type 32 = .ok (.ifCond .lt 15, 3) := by decide +kernel
theorem dX5_type_35 : decode cX5_type 35 = .ok (.aload_n 3, 1) := by decide +kernel
theorem dX5_type_36 : decode cX5_type 36 = .ok (.getfield 78, 3) := by decide +kernel
theorem dX5_type_39 : decode cX5_type 39 = .ok (.aload_n 3, 1) := by decide +kernel
theorem dX5_type_40 : decode cX5_type 40 = .ok (.getfield 81, 3) := by decide +kernel
theorem dX5_type_43 : decode cX5_type 43 = .ok (.arraylength, 1) := by decide +kernel
theorem dX5_type_44 : decode cX5_type 44 = .ok (.if_icmp .lt 6, 3) := by decide +kernel
theorem dX5_type_47 : decode cX5_type 47 = .ok (.bipush (-4), 2) := by decide +kernel
theorem dX5_type_49 : decode cX5_type 49 = .ok (.ireturn, 1) := by decide +kernel
theorem dX5_type_50 : decode cX5_type 50 = .ok (.aload_n 3, 1) := by decide +kernel
theorem dX5_type_51 : decode cX5_type 51 = .ok (.getfield 81, 3) := by decide +kernel
theorem dX5_type_54 : decode cX5_type 54 = .ok (.aload_n 3, 1) := by decide +kernel
theorem dX5_type_55 : decode cX5_type 55 = .ok (.getfield 78, 3) := by decide +kernel
theorem dX5_type_58 : decode cX5_type 58 = .ok (.iload_n 2, 1) := by decide +kernel
theorem dX5_type_59 : decode cX5_type 59 = .ok (.i2c, 1) := by decide +kernel
theorem dX5_type_60 : decode cX5_type 60 = .ok (.castore, 1) := by decide +kernel
theorem dX5_type_61 : decode cX5_type 61 = .ok (.aload_n 0, 1) := by decide +kernel
theorem dX5_type_62 : decode cX5_type 62 = .ok (.aload_n 3, 1) := by decide +kernel
theorem dX5_type_63 : decode cX5_type 63 = .ok (.aload_n 3, 1) := by decide +kernel
theorem dX5_type_64 : decode cX5_type 64 = .ok (.getfield 78, 3) := by decide +kernel
theorem dX5_type_67 : decode cX5_type 67 = .ok (.iconst 1, 1) := by decide +kernel
theorem dX5_type_68 : decode cX5_type 68 = .ok (.iadd, 1) := by decide +kernel
theorem dX5_type_69 : decode cX5_type 69 = .ok (.invokevirtual 85, 3) := by decide +kernel
theorem dX5_type_72 : decode cX5_type 72 = .ok (.ireturn, 1) := by decide +kernel
theorem dX5_wipe_0 : decode cX5_wipe 0 = .ok (.iload_n 1, 1) := by decide +kernel
theorem dX5_wipe_1 : decode cX5_wipe 1 = .ok (.invokestatic 74, 3) := by decide +kernel
theorem dX5_wipe_4 : decode cX5_wipe 4 = .ok (.ifCond .ne 6, 3) := by decide +kernel
theorem dX5_wipe_7 : decode cX5_wipe 7 = .ok (.bipush (-2), 2) := by decide +kernel
theorem dX5_wipe_9 : decode cX5_wipe 9 = .ok (.ireturn, 1) := by decide +kernel
theorem dX5_wipe_10 : decode cX5_wipe 10 = .ok (.aload_n 0, 1) := by decide +kernel
theorem dX5_wipe_11 : decode cX5_wipe 11 = .ok (.getfield 11, 3) := by decide +kernel
theorem dX5_wipe_14 : decode cX5_wipe 14 = .ok (.iload_n 1, 1) := by decide +kernel
theorem dX5_wipe_15 : decode cX5_wipe 15 = .ok (.aaload, 1) := by decide +kernel
theorem dX5_wipe_16 : decode cX5_wipe 16 = .ok (.getfield 78, 3) := by decide +kernel
theorem dX5_wipe_19 : decode cX5_wipe 19 = .ok (.istore_n 2, 1) := by decide +kernel
theorem dX5_wipe_20 : decode cX5_wipe 20 = .ok (.aload_n 0, 1) := by decide +kernel
theorem dX5_wipe_21 : decode cX5_wipe 21 = .ok (.aload_n 0, 1) := by decide +kernel
theorem dX5_wipe_22 : decode cX5_wipe 22 = .ok (.getfield 11, 3) := by decide +kernel
theorem dX5_wipe_25 : decode cX5_wipe 25 = .ok (.iload_n 1, 1) := by decide +kernel
theorem dX5_wipe_26 : decode cX5_wipe 26 = .ok (.aaload, 1) := by decide +kernel
theorem dX5_wipe_27 : decode cX5_wipe 27 = .ok (.iconst 0, 1) := by decide +kernel
theorem dX5_wipe_28 : decode cX5_wipe 28 = .ok (.invokevirtual 85, 3) := by decide +kernel
theorem dX5_wipe_31 : decode cX5_wipe 31 = .ok (.pop, 1) := by decide +kernel
theorem dX5_wipe_32 : decode cX5_wipe 32 = .ok (.iload_n 2, 1) := by decide +kernel
theorem dX5_wipe_33 : decode cX5_wipe 33 = .ok (.ireturn, 1) := by decide +kernel
theorem dX5_undo_0 : decode cX5_undo 0 = .ok (.iload_n 1, 1) := by decide +kernel
theorem dX5_undo_1 : decode cX5_undo 1 = .ok (.invokestatic 74, 3) := by decide +kernel
theorem dX5_undo_4 : decode cX5_undo 4 = .ok (.ifCond .ne 6, 3) := by decide +kernel
theorem dX5_undo_7 : decode cX5_undo 7 = .ok (.bipush (-2), 2) := by decide +kernel
theorem dX5_undo_9 : decode cX5_undo 9 = .ok (.ireturn, 1) := by decide +kernel
theorem dX5_undo_10 : decode cX5_undo 10 = .ok (.aload_n 0, 1) := by decide +kernel
theorem dX5_undo_11 : decode cX5_undo 11 = .ok (.getfield 11, 3) := by decide +kernel
theorem dX5_undo_14 : decode cX5_undo 14 = .ok (.iload_n 1, 1) := by decide +kernel
theorem dX5_undo_15 : decode cX5_undo 15 = .ok (.aaload, 1) := by decide +kernel
theorem dX5_undo_16 : decode cX5_undo 16 = .ok (.getfield 78, 3) := by decide +kernel
theorem dX5_undo_19 : decode cX5_undo 19 = .ok (.ifCond .ne 6, 3) := by decide +kernel
theorem dX5_undo_22 : decode cX5_undo 22 = .ok (.bipush (-3), 2) := by decide +kernel
theorem dX5_undo_24 : decode cX5_undo 24 = .ok (.ireturn, 1) := by decide +kernel
theorem dX5_undo_25 : decode cX5_undo 25 = .ok (.aload_n 0, 1) := by decide +kernel
theorem dX5_undo_26 : decode cX5_undo 26 = .ok (.aload_n 0, 1) := by decide +kernel
theorem dX5_undo_27 : decode cX5_undo 27 = .ok (.getfield 11, 3) := by decide +kernel
theorem dX5_undo_30 : decode cX5_undo 30 = .ok (.iload_n 1, 1) := by decide +kernel
theorem dX5_undo_31 : decode cX5_undo 31 = .ok (.aaload, 1) := by decide +kernel
theorem dX5_undo_32 : decode cX5_undo 32 = .ok (.aload_n 0, 1) := by decide +kernel
theorem dX5_undo_33 : decode cX5_undo 33 = .ok (.getfield 11, 3) := by decide +kernel
theorem dX5_undo_36 : decode cX5_undo 36 = .ok (.iload_n 1, 1) := by decide +kernel
theorem dX5_undo_37 : decode cX5_undo 37 = .ok (.aaload, 1) := by decide +kernel
theorem dX5_undo_38 : decode cX5_undo 38 = .ok (.getfield 78, 3) := by decide +kernel
theorem dX5_undo_41 : decode cX5_undo 41 = .ok (.iconst 1, 1) := by decide +kernel
theorem dX5_undo_42 : decode cX5_undo 42 = .ok (.isub, 1) := by decide +kernel
theorem dX5_undo_43 : decode cX5_undo 43 = .ok (.invokevirtual 85, 3) := by decide +kernel
theorem dX5_undo_46 : decode cX5_undo 46 = .ok (.ireturn, 1) := by decide +kernel
theorem dX5_fault_0 : decode cX5_fault 0 = .ok (.iload_n 1, 1) := by decide +kernel
theorem dX5_fault_1 : decode cX5_fault 1 = .ok (.invokestatic 74, 3) := by decide +kernel
theorem dX5_fault_4 : decode cX5_fault 4 = .ok (.ifCond .eq 15, 3) := by decide +kernel
theorem dX5_fault_7 : decode cX5_fault 7 = .ok (.aload_n 0, 1) := by decide +kernel
theorem dX5_fault_8 : decode cX5_fault 8 = .ok (.getfield 11, 3) := by decide +kernel
theorem dX5_fault_11 : decode cX5_fault 11 = .ok (.iload_n 1, 1) := by decide +kernel
theorem dX5_fault_12 : decode cX5_fault 12 = .ok (.aaload, 1) := by decide +kernel
theorem dX5_fault_13 : decode cX5_fault 13 = .ok (.invokevirtual 89, 3) := by decide +kernel
theorem dX5_fault_16 : decode cX5_fault 16 = .ok (.goto 5, 3) := by decide +kernel
theorem dX5_fault_19 : decode cX5_fault 19 = .ok (.bipush (-2), 2) := by decide +kernel
theorem dX5_fault_21 : decode cX5_fault 21 = .ok (.ireturn, 1) := by decide +kernel
theorem dX5_sailor_0 : decode cX5_sailor 0 = .ok (.aload_n 0, 1) := by decide +kernel
theorem dX5_sailor_1 : decode cX5_sailor 1 = .ok (.iload_n 1, 1) := by decide +kernel
theorem dX5_sailor_2 : decode cX5_sailor 2 = .ok (.invokevirtual 93, 3) := by decide +kernel
theorem dX5_sailor_5 : decode cX5_sailor 5 = .ok (.ifCond .ne 6, 3) := by decide +kernel
theorem dX5_sailor_8 : decode cX5_sailor 8 = .ok (.bipush (-2), 2) := by decide +kernel
theorem dX5_sailor_10 : decode cX5_sailor 10 = .ok (.ireturn, 1) := by decide +kernel
theorem dX5_sailor_11 : decode cX5_sailor 11 = .ok (.iload_n 2, 1) := by decide +kernel
theorem dX5_sailor_12 : decode cX5_sailor 12 = .ok (.tableswitch 72 0 3 #[32, 42, 52, 62], 32) := by decide +kernel
theorem dX5_sailor_44 : decode cX5_sailor 44 = .ok (.aload_n 0, 1) := by decide +kernel
theorem dX5_sailor_45 : decode cX5_sailor 45 = .ok (.getfield 29, 3) := by decide +kernel
theorem dX5_sailor_48 : decode cX5_sailor 48 = .ok (.getfield 96, 3) := by decide +kernel
theorem dX5_sailor_51 : decode cX5_sailor 51 = .ok (.iload_n 1, 1) := by decide +kernel
theorem dX5_sailor_52 : decode cX5_sailor 52 = .ok (.iaload, 1) := by decide +kernel
theorem dX5_sailor_53 : decode cX5_sailor 53 = .ok (.ireturn, 1) := by decide +kernel
theorem dX5_sailor_54 : decode cX5_sailor 54 = .ok (.aload_n 0, 1) := by decide +kernel
theorem dX5_sailor_55 : decode cX5_sailor 55 = .ok (.getfield 29, 3) := by decide +kernel
theorem dX5_sailor_58 : decode cX5_sailor 58 = .ok (.getfield 101, 3) := by decide +kernel
theorem dX5_sailor_61 : decode cX5_sailor 61 = .ok (.iload_n 1, 1) := by decide +kernel
theorem dX5_sailor_62 : decode cX5_sailor 62 = .ok (.iaload, 1) := by decide +kernel
theorem dX5_sailor_63 : decode cX5_sailor 63 = .ok (.ireturn, 1) := by decide +kernel
theorem dX5_sailor_64 : decode cX5_sailor 64 = .ok (.aload_n 0, 1) := by decide +kernel
theorem dX5_sailor_65 : decode cX5_sailor 65 = .ok (.getfield 29, 3) := by decide +kernel
theorem dX5_sailor_68 : decode cX5_sailor 68 = .ok (.getfield 104, 3) := by decide +kernel
theorem dX5_sailor_71 : decode cX5_sailor 71 = .ok (.iload_n 1, 1) := by decide +kernel
theorem dX5_sailor_72 : decode cX5_sailor 72 = .ok (.iaload, 1) := by decide +kernel
theorem dX5_sailor_73 : decode cX5_sailor 73 = .ok (.ireturn, 1) := by decide +kernel
theorem dX5_sailor_74 : decode cX5_sailor 74 = .ok (.aload_n 0, 1) := by decide +kernel
theorem dX5_sailor_75 : decode cX5_sailor 75 = .ok (.getfield 29, 3) := by decide +kernel
theorem dX5_sailor_78 : decode cX5_sailor 78 = .ok (.getfield 107, 3) := by decide +kernel
theorem dX5_sailor_81 : decode cX5_sailor 81 = .ok (.iload_n 1, 1) := by decide +kernel
theorem dX5_sailor_82 : decode cX5_sailor 82 = .ok (.iaload, 1) := by decide +kernel
theorem dX5_sailor_83 : decode cX5_sailor 83 = .ok (.ireturn, 1) := by decide +kernel
theorem dX5_sailor_84 : decode cX5_sailor 84 = .ok (.bipush (-2), 2) := by decide +kernel
theorem dX5_sailor_86 : decode cX5_sailor 86 = .ok (.ireturn, 1) := by decide +kernel
theorem dX5_house_0 : decode cX5_house 0 = .ok (.aload_n 0, 1) := by decide +kernel
theorem dX5_house_1 : decode cX5_house 1 = .ok (.iload_n 1, 1) := by decide +kernel
theorem dX5_house_2 : decode cX5_house 2 = .ok (.invokevirtual 110, 3) := by decide +kernel
theorem dX5_house_5 : decode cX5_house 5 = .ok (.ifCond .ne 6, 3) := by decide +kernel
theorem dX5_house_8 : decode cX5_house 8 = .ok (.bipush (-2), 2) := by decide +kernel
theorem dX5_house_10 : decode cX5_house 10 = .ok (.ireturn, 1) := by decide +kernel
theorem dX5_house_11 : decode cX5_house 11 = .ok (.iload_n 2, 1) := by decide +kernel
theorem dX5_house_12 : decode cX5_house 12 = .ok (.lookupswitch 48 #[(0, 28), (1, 38)], 28) := by decide +kernel
theorem dX5_house_40 : decode cX5_house 40 = .ok (.aload_n 0, 1) := by decide +kernel
theorem dX5_house_41 : decode cX5_house 41 = .ok (.getfield 29, 3) := by decide +kernel
theorem dX5_house_44 : decode cX5_house 44 = .ok (.getfield 113, 3) := by decide +kernel
theorem dX5_house_47 : decode cX5_house 47 = .ok (.iload_n 1, 1) := by decide +kernel
theorem dX5_house_48 : decode cX5_house 48 = .ok (.iaload, 1) := by decide +kernel
theorem dX5_house_49 : decode cX5_house 49 = .ok (.ireturn, 1) := by decide +kernel
theorem dX5_house_50 : decode cX5_house 50 = .ok (.aload_n 0, 1) := by decide +kernel
theorem dX5_house_51 : decode cX5_house 51 = .ok (.getfield 29, 3) := by decide +kernel
theorem dX5_house_54 : decode cX5_house 54 = .ok (.getfield 116, 3) := by decide +kernel
theorem dX5_house_57 : decode cX5_house 57 = .ok (.iload_n 1, 1) := by decide +kernel
theorem dX5_house_58 : decode cX5_house 58 = .ok (.iaload, 1) := by decide +kernel
theorem dX5_house_59 : decode cX5_house 59 = .ok (.ireturn, 1) := by decide +kernel
theorem dX5_house_60 : decode cX5_house 60 = .ok (.bipush (-2), 2) := by decide +kernel
theorem dX5_house_62 : decode cX5_house 62 = .ok (.ireturn, 1) := by decide +kernel
theorem dX5_ship_0 : decode cX5_ship 0 = .ok (.aload_n 0, 1) := by decide +kernel
theorem dX5_ship_1 : decode cX5_ship 1 = .ok (.iload_n 1, 1) := by decide +kernel
theorem dX5_ship_2 : decode cX5_ship 2 = .ok (.invokevirtual 119, 3) := by decide +kernel
theorem dX5_ship_5 : decode cX5_ship 5 = .ok (.ifCond .ne 6, 3) := by decide +kernel
theorem dX5_ship_8 : decode cX5_ship 8 = .ok (.bipush (-2), 2) := by decide +kernel
theorem dX5_ship_10 : decode cX5_ship 10 = .ok (.ireturn, 1) := by decide +kernel
theorem dX5_ship_11 : decode cX5_ship 11 = .ok (.iload_n 2, 1) := by decide +kernel
theorem dX5_ship_12 : decode cX5_ship 12 = .ok (.tableswitch 72 0 3 #[32, 42, 52, 62], 32) := by decide +kernel
theorem dX5_ship_44 : decode cX5_ship 44 = .ok (.aload_n 0, 1) := by decide +kernel
theorem dX5_ship_45 : decode cX5_ship 45 = .ok (.getfield 29, 3) := by decide +kernel
theorem dX5_ship_48 : decode cX5_ship 48 = .ok (.getfield 122, 3) := by decide +kernel
theorem dX5_ship_51 : decode cX5_ship 51 = .ok (.iload_n 1, 1) := by decide +kernel
theorem dX5_ship_52 : decode cX5_ship 52 = .ok (.iaload, 1) := by decide +kernel
theorem dX5_ship_53 : decode cX5_ship 53 = .ok (.ireturn, 1) := by decide +kernel
theorem dX5_ship_54 : decode cX5_ship 54 = .ok (.aload_n 0, 1) := by decide +kernel
theorem dX5_ship_55 : decode cX5_ship 55 = .ok (.getfield 29, 3) := by decide +kernel
theorem dX5_ship_58 : decode cX5_ship 58 = .ok (.getfield 125, 3) := by decide +kernel
theorem dX5_ship_61 : decode cX5_ship 61 = .ok (.iload_n 1, 1) := by decide +kernel
theorem dX5_ship_62 : decode cX5_ship 62 = .ok (.iaload, 1) := by decide +kernel
theorem dX5_ship_63 : decode cX5_ship 63 = .ok (.ireturn, 1) := by decide +kernel
theorem dX5_ship_64 : decode cX5_ship 64 = .ok (.aload_n 0, 1) := by decide +kernel
theorem dX5_ship_65 : decode cX5_ship 65 = .ok (.getfield 29, 3) := by decide +kernel
theorem dX5_ship_68 : decode cX5_ship 68 = .ok (.getfield 128, 3) := by decide +kernel
theorem dX5_ship_71 : decode cX5_ship 71 = .ok (.iload_n 1, 1) := by decide +kernel
theorem dX5_ship_72 : decode cX5_ship 72 = .ok (.iaload, 1) := by decide +kernel
theorem dX5_ship_73 : decode cX5_ship 73 = .ok (.ireturn, 1) := by decide +kernel
theorem dX5_ship_74 : decode cX5_ship 74 = .ok (.aload_n 0, 1) := by decide +kernel
theorem dX5_ship_75 : decode cX5_ship 75 = .ok (.getfield 29, 3) := by decide +kernel
theorem dX5_ship_78 : decode cX5_ship 78 = .ok (.getfield 131, 3) := by decide +kernel
theorem dX5_ship_81 : decode cX5_ship 81 = .ok (.iload_n 1, 1) := by decide +kernel
theorem dX5_ship_82 : decode cX5_ship 82 = .ok (.iaload, 1) := by decide +kernel
theorem dX5_ship_83 : decode cX5_ship 83 = .ok (.ireturn, 1) := by decide +kernel
theorem dX5_ship_84 : decode cX5_ship 84 = .ok (.bipush (-2), 2) := by decide +kernel
theorem dX5_ship_86 : decode cX5_ship 86 = .ok (.ireturn, 1) := by decide +kernel
theorem dX5_cap_0 : decode cX5_cap 0 = .ok (.iload_n 1, 1) := by decide +kernel
theorem dX5_cap_1 : decode cX5_cap 1 = .ok (.ifCond .lt 9, 3) := by decide +kernel
theorem dX5_cap_4 : decode cX5_cap 4 = .ok (.iload_n 1, 1) := by decide +kernel
theorem dX5_cap_5 : decode cX5_cap 5 = .ok (.bipush 10, 2) := by decide +kernel
theorem dX5_cap_7 : decode cX5_cap 7 = .ok (.if_icmp .lt 6, 3) := by decide +kernel
theorem dX5_cap_10 : decode cX5_cap 10 = .ok (.bipush (-2), 2) := by decide +kernel
theorem dX5_cap_12 : decode cX5_cap 12 = .ok (.ireturn, 1) := by decide +kernel
theorem dX5_cap_13 : decode cX5_cap 13 = .ok (.aload_n 0, 1) := by decide +kernel
theorem dX5_cap_14 : decode cX5_cap 14 = .ok (.getfield 29, 3) := by decide +kernel
theorem dX5_cap_17 : decode cX5_cap 17 = .ok (.getfield 134, 3) := by decide +kernel
theorem dX5_cap_20 : decode cX5_cap 20 = .ok (.istore_n 2, 1) := by decide +kernel
theorem dX5_cap_21 : decode cX5_cap 21 = .ok (.aload_n 0, 1) := by decide +kernel
theorem dX5_cap_22 : decode cX5_cap 22 = .ok (.getfield 29, 3) := by decide +kernel
theorem dX5_cap_25 : decode cX5_cap 25 = .ok (.iload_n 1, 1) := by decide +kernel
theorem dX5_cap_26 : decode cX5_cap 26 = .ok (.putfield 134, 3) := by decide +kernel
theorem dX5_cap_29 : decode cX5_cap 29 = .ok (.aload_n 0, 1) := by decide +kernel
theorem dX5_cap_30 : decode cX5_cap 30 = .ok (.invokevirtual 137, 3) := by decide +kernel
theorem dX5_cap_33 : decode cX5_cap 33 = .ok (.iload_n 2, 1) := by decide +kernel
theorem dX5_cap_34 : decode cX5_cap 34 = .ok (.ireturn, 1) := by decide +kernel
theorem dX5_owes_0 : decode cX5_owes 0 = .ok (.iload_n 1, 1) := by decide +kernel
theorem dX5_owes_1 : decode cX5_owes 1 = .ok (.invokestatic 140, 3) := by decide +kernel
theorem dX5_owes_4 : decode cX5_owes 4 = .ok (.ifCond .eq 11, 3) := by decide +kernel
theorem dX5_owes_7 : decode cX5_owes 7 = .ok (.aload_n 0, 1) := by decide +kernel
theorem dX5_owes_8 : decode cX5_owes 8 = .ok (.iload_n 2, 1) := by decide +kernel
theorem dX5_owes_9 : decode cX5_owes 9 = .ok (.invokevirtual 93, 3) := by decide +kernel
theorem dX5_owes_12 : decode cX5_owes 12 = .ok (.ifCond .ne 6, 3) := by decide +kernel
theorem dX5_owes_15 : decode cX5_owes 15 = .ok (.bipush (-2), 2) := by decide +kernel
theorem dX5_owes_17 : decode cX5_owes 17 = .ok (.ireturn, 1) := by decide +kernel
theorem dX5_owes_18 : decode cX5_owes 18 = .ok (.aload_n 0, 1) := by decide +kernel
theorem dX5_owes_19 : decode cX5_owes 19 = .ok (.invokevirtual 143, 3) := by decide +kernel
theorem dX5_owes_22 : decode cX5_owes 22 = .ok (.getfield 147, 3) := by decide +kernel
theorem dX5_owes_25 : decode cX5_owes 25 = .ok (.iload_n 1, 1) := by decide +kernel
theorem dX5_owes_26 : decode cX5_owes 26 = .ok (.bipush 8, 2) := by decide +kernel
theorem dX5_owes_28 : decode cX5_owes 28 = .ok (.imul, 1) := by decide +kernel
theorem dX5_owes_29 : decode cX5_owes 29 = .ok (.iload_n 2, 1) := by decide +kernel
theorem dX5_owes_30 : decode cX5_owes 30 = .ok (.iadd, 1) := by decide +kernel
theorem dX5_owes_31 : decode cX5_owes 31 = .ok (.iaload, 1) := by decide +kernel
theorem dX5_owes_32 : decode cX5_owes 32 = .ok (.ireturn, 1) := by decide +kernel
theorem dX5_purse_0 : decode cX5_purse 0 = .ok (.iload_n 1, 1) := by decide +kernel
theorem dX5_purse_1 : decode cX5_purse 1 = .ok (.invokestatic 140, 3) := by decide +kernel
theorem dX5_purse_4 : decode cX5_purse 4 = .ok (.ifCond .eq 11, 3) := by decide +kernel
theorem dX5_purse_7 : decode cX5_purse 7 = .ok (.aload_n 0, 1) := by decide +kernel
theorem dX5_purse_8 : decode cX5_purse 8 = .ok (.iload_n 2, 1) := by decide +kernel
theorem dX5_purse_9 : decode cX5_purse 9 = .ok (.invokevirtual 93, 3) := by decide +kernel
theorem dX5_purse_12 : decode cX5_purse 12 = .ok (.ifCond .ne 6, 3) := by decide +kernel
theorem dX5_purse_15 : decode cX5_purse 15 = .ok (.bipush (-2), 2) := by decide +kernel
theorem dX5_purse_17 : decode cX5_purse 17 = .ok (.ireturn, 1) := by decide +kernel
theorem dX5_purse_18 : decode cX5_purse 18 = .ok (.aload_n 0, 1) := by decide +kernel
theorem dX5_purse_19 : decode cX5_purse 19 = .ok (.invokevirtual 143, 3) := by decide +kernel
theorem dX5_purse_22 : decode cX5_purse 22 = .ok (.getfield 150, 3) := by decide +kernel
theorem dX5_purse_25 : decode cX5_purse 25 = .ok (.iload_n 1, 1) := by decide +kernel
theorem dX5_purse_26 : decode cX5_purse 26 = .ok (.bipush 8, 2) := by decide +kernel
theorem dX5_purse_28 : decode cX5_purse 28 = .ok (.imul, 1) := by decide +kernel
theorem dX5_purse_29 : decode cX5_purse 29 = .ok (.iload_n 2, 1) := by decide +kernel
theorem dX5_purse_30 : decode cX5_purse 30 = .ok (.iadd, 1) := by decide +kernel
theorem dX5_purse_31 : decode cX5_purse 31 = .ok (.iaload, 1) := by decide +kernel
theorem dX5_purse_32 : decode cX5_purse 32 = .ok (.ireturn, 1) := by decide +kernel
theorem dX5_where_0 : decode cX5_where 0 = .ok (.iload_n 1, 1) := by decide +kernel
theorem dX5_where_1 : decode cX5_where 1 = .ok (.invokestatic 140, 3) := by decide +kernel
theorem dX5_where_4 : decode cX5_where 4 = .ok (.ifCond .eq 11, 3) := by decide +kernel
theorem dX5_where_7 : decode cX5_where 7 = .ok (.aload_n 0, 1) := by decide +kernel
theorem dX5_where_8 : decode cX5_where 8 = .ok (.iload_n 2, 1) := by decide +kernel
theorem dX5_where_9 : decode cX5_where 9 = .ok (.invokevirtual 93, 3) := by decide +kernel
theorem dX5_where_12 : decode cX5_where 12 = .ok (.ifCond .ne 6, 3) := by decide +kernel
theorem dX5_where_15 : decode cX5_where 15 = .ok (.bipush (-2), 2) := by decide +kernel
theorem dX5_where_17 : decode cX5_where 17 = .ok (.ireturn, 1) := by decide +kernel
theorem dX5_where_18 : decode cX5_where 18 = .ok (.aload_n 0, 1) := by decide +kernel
theorem dX5_where_19 : decode cX5_where 19 = .ok (.invokevirtual 143, 3) := by decide +kernel
theorem dX5_where_22 : decode cX5_where 22 = .ok (.getfield 153, 3) := by decide +kernel
theorem dX5_where_25 : decode cX5_where 25 = .ok (.iload_n 1, 1) := by decide +kernel
theorem dX5_where_26 : decode cX5_where 26 = .ok (.bipush 8, 2) := by decide +kernel
theorem dX5_where_28 : decode cX5_where 28 = .ok (.imul, 1) := by decide +kernel
theorem dX5_where_29 : decode cX5_where 29 = .ok (.iload_n 2, 1) := by decide +kernel
theorem dX5_where_30 : decode cX5_where 30 = .ok (.iadd, 1) := by decide +kernel
theorem dX5_where_31 : decode cX5_where 31 = .ok (.iaload, 1) := by decide +kernel
theorem dX5_where_32 : decode cX5_where 32 = .ok (.ireturn, 1) := by decide +kernel
theorem dX5_takes_0 : decode cX5_takes 0 = .ok (.iload_n 1, 1) := by decide +kernel
theorem dX5_takes_1 : decode cX5_takes 1 = .ok (.invokestatic 140, 3) := by decide +kernel
theorem dX5_takes_4 : decode cX5_takes 4 = .ok (.ifCond .eq 11, 3) := by decide +kernel
theorem dX5_takes_7 : decode cX5_takes 7 = .ok (.aload_n 0, 1) := by decide +kernel
theorem dX5_takes_8 : decode cX5_takes 8 = .ok (.iload_n 2, 1) := by decide +kernel
theorem dX5_takes_9 : decode cX5_takes 9 = .ok (.invokevirtual 110, 3) := by decide +kernel
theorem dX5_takes_12 : decode cX5_takes 12 = .ok (.ifCond .ne 6, 3) := by decide +kernel
theorem dX5_takes_15 : decode cX5_takes 15 = .ok (.bipush (-2), 2) := by decide +kernel
theorem dX5_takes_17 : decode cX5_takes 17 = .ok (.ireturn, 1) := by decide +kernel
theorem dX5_takes_18 : decode cX5_takes 18 = .ok (.iload_n 3, 1) := by decide +kernel
theorem dX5_takes_19 : decode cX5_takes 19 = .ok (.lookupswitch 50 #[(0, 25), (1, 40)], 25) := by decide +kernel
theorem dX5_takes_44 : decode cX5_takes 44 = .ok (.aload_n 0, 1) := by decide +kernel
theorem dX5_takes_45 : decode cX5_takes 45 = .ok (.invokevirtual 143, 3) := by decide +kernel
theorem dX5_takes_48 : decode cX5_takes 48 = .ok (.getfield 156, 3) := by decide +kernel
theorem dX5_takes_51 : decode cX5_takes 51 = .ok (.iload_n 1, 1) := by decide +kernel
theorem dX5_takes_52 : decode cX5_takes 52 = .ok (.bipush 8, 2) := by decide +kernel
theorem dX5_takes_54 : decode cX5_takes 54 = .ok (.imul, 1) := by decide +kernel
theorem dX5_takes_55 : decode cX5_takes 55 = .ok (.iload_n 2, 1) := by decide +kernel
theorem dX5_takes_56 : decode cX5_takes 56 = .ok (.iadd, 1) := by decide +kernel
theorem dX5_takes_57 : decode cX5_takes 57 = .ok (.iaload, 1) := by decide +kernel
theorem dX5_takes_58 : decode cX5_takes 58 = .ok (.ireturn, 1) := by decide +kernel
theorem dX5_takes_59 : decode cX5_takes 59 = .ok (.aload_n 0, 1) := by decide +kernel
theorem dX5_takes_60 : decode cX5_takes 60 = .ok (.invokevirtual 143, 3) := by decide +kernel
theorem dX5_takes_63 : decode cX5_takes 63 = .ok (.iload_n 2, 1) := by decide +kernel
theorem dX5_takes_64 : decode cX5_takes 64 = .ok (.iload_n 1, 1) := by decide +kernel
theorem dX5_takes_65 : decode cX5_takes 65 = .ok (.invokevirtual 159, 3) := by decide +kernel
theorem dX5_takes_68 : decode cX5_takes 68 = .ok (.ireturn, 1) := by decide +kernel
theorem dX5_takes_69 : decode cX5_takes 69 = .ok (.bipush (-2), 2) := by decide +kernel
theorem dX5_takes_71 : decode cX5_takes 71 = .ok (.ireturn, 1) := by decide +kernel
theorem dX5_crew_0 : decode cX5_crew 0 = .ok (.aload_n 0, 1) := by decide +kernel
theorem dX5_crew_1 : decode cX5_crew 1 = .ok (.iload_n 1, 1) := by decide +kernel
theorem dX5_crew_2 : decode cX5_crew 2 = .ok (.invokevirtual 119, 3) := by decide +kernel
theorem dX5_crew_5 : decode cX5_crew 5 = .ok (.ifCond .ne 6, 3) := by decide +kernel
theorem dX5_crew_8 : decode cX5_crew 8 = .ok (.bipush (-2), 2) := by decide +kernel
theorem dX5_crew_10 : decode cX5_crew 10 = .ok (.ireturn, 1) := by decide +kernel
theorem dX5_crew_11 : decode cX5_crew 11 = .ok (.aload_n 0, 1) := by decide +kernel
theorem dX5_crew_12 : decode cX5_crew 12 = .ok (.invokevirtual 143, 3) := by decide +kernel
theorem dX5_crew_15 : decode cX5_crew 15 = .ok (.astore_n 3, 1) := by decide +kernel
theorem dX5_crew_16 : decode cX5_crew 16 = .ok (.iload_n 2, 1) := by decide +kernel
theorem dX5_crew_17 : decode cX5_crew 17 = .ok (.tableswitch 82 0 4 #[35, 42, 49, 56, 62], 35) := by decide +kernel
theorem dX5_crew_52 : decode cX5_crew 52 = .ok (.aload_n 3, 1) := by decide +kernel
theorem dX5_crew_53 : decode cX5_crew 53 = .ok (.getfield 163, 3) := by decide +kernel
theorem dX5_crew_56 : decode cX5_crew 56 = .ok (.iload_n 1, 1) := by decide +kernel
theorem dX5_crew_57 : decode cX5_crew 57 = .ok (.iaload, 1) := by decide +kernel
theorem dX5_crew_58 : decode cX5_crew 58 = .ok (.ireturn, 1) := by decide +kernel
theorem dX5_crew_59 : decode cX5_crew 59 = .ok (.aload_n 3, 1) := by decide +kernel
theorem dX5_crew_60 : decode cX5_crew 60 = .ok (.getfield 166, 3) := by decide +kernel
theorem dX5_crew_63 : decode cX5_crew 63 = .ok (.iload_n 1, 1) := by decide +kernel
theorem dX5_crew_64 : decode cX5_crew 64 = .ok (.iaload, 1) := by decide +kernel
theorem dX5_crew_65 : decode cX5_crew 65 = .ok (.ireturn, 1) := by decide +kernel
theorem dX5_crew_66 : decode cX5_crew 66 = .ok (.aload_n 3, 1) := by decide +kernel
theorem dX5_crew_67 : decode cX5_crew 67 = .ok (.getfield 169, 3) := by decide +kernel
theorem dX5_crew_70 : decode cX5_crew 70 = .ok (.iload_n 1, 1) := by decide +kernel
theorem dX5_crew_71 : decode cX5_crew 71 = .ok (.iaload, 1) := by decide +kernel
theorem dX5_crew_72 : decode cX5_crew 72 = .ok (.ireturn, 1) := by decide +kernel
theorem dX5_crew_73 : decode cX5_crew 73 = .ok (.aload_n 3, 1) := by decide +kernel
theorem dX5_crew_74 : decode cX5_crew 74 = .ok (.iload_n 1, 1) := by decide +kernel
theorem dX5_crew_75 : decode cX5_crew 75 = .ok (.invokevirtual 172, 3) := by decide +kernel
theorem dX5_crew_78 : decode cX5_crew 78 = .ok (.ireturn, 1) := by decide +kernel
theorem dX5_crew_79 : decode cX5_crew 79 = .ok (.aload_n 0, 1) := by decide +kernel
theorem dX5_crew_80 : decode cX5_crew 80 = .ok (.getfield 29, 3) := by decide +kernel
theorem dX5_crew_83 : decode cX5_crew 83 = .ok (.getfield 125, 3) := by decide +kernel
theorem dX5_crew_86 : decode cX5_crew 86 = .ok (.iload_n 1, 1) := by decide +kernel
theorem dX5_crew_87 : decode cX5_crew 87 = .ok (.iaload, 1) := by decide +kernel
theorem dX5_crew_88 : decode cX5_crew 88 = .ok (.aload_n 3, 1) := by decide +kernel
theorem dX5_crew_89 : decode cX5_crew 89 = .ok (.getfield 169, 3) := by decide +kernel
theorem dX5_crew_92 : decode cX5_crew 92 = .ok (.iload_n 1, 1) := by decide +kernel
theorem dX5_crew_93 : decode cX5_crew 93 = .ok (.iaload, 1) := by decide +kernel
theorem dX5_crew_94 : decode cX5_crew 94 = .ok (.invokestatic 176, 3) := by decide +kernel
theorem dX5_crew_97 : decode cX5_crew 97 = .ok (.isub, 1) := by decide +kernel
theorem dX5_crew_98 : decode cX5_crew 98 = .ok (.ireturn, 1) := by decide +kernel
theorem dX5_crew_99 : decode cX5_crew 99 = .ok (.bipush (-2), 2) := by decide +kernel
theorem dX5_crew_101 : decode cX5_crew 101 = .ok (.ireturn, 1) := by decide +kernel
theorem dX5_richest_0 : decode cX5_richest 0 = .ok (.iload_n 1, 1) := by decide +kernel
theorem dX5_richest_1 : decode cX5_richest 1 = .ok (.invokestatic 140, 3) := by decide +kernel
theorem dX5_richest_4 : decode cX5_richest 4 = .ok (.ifCond .ne 6, 3) := by decide +kernel
theorem dX5_richest_7 : decode cX5_richest 7 = .ok (.bipush (-2), 2) := by decide +kernel
theorem dX5_richest_9 : decode cX5_richest 9 = .ok (.ireturn, 1) := by decide +kernel
theorem dX5_richest_10 : decode cX5_richest 10 = .ok (.aload_n 0, 1) := by decide +kernel
theorem dX5_richest_11 : decode cX5_richest 11 = .ok (.invokevirtual 143, 3) := by decide +kernel
theorem dX5_richest_14 : decode cX5_richest 14 = .ok (.getfield 156, 3) := by decide +kernel
theorem dX5_richest_17 : decode cX5_richest 17 = .ok (.astore_n 2, 1) := by decide +kernel
theorem dX5_richest_18 : decode cX5_richest 18 = .ok (.iconst (-1), 1) := by decide +kernel
theorem dX5_richest_19 : decode cX5_richest 19 = .ok (.istore_n 3, 1) := by decide +kernel
theorem dX5_richest_20 : decode cX5_richest 20 = .ok (.iconst (-1), 1) := by decide +kernel
theorem dX5_richest_21 : decode cX5_richest 21 = .ok (.istore 4, 2) := by decide +kernel
theorem dX5_richest_23 : decode cX5_richest 23 = .ok (.iconst 0, 1) := by decide +kernel
theorem dX5_richest_24 : decode cX5_richest 24 = .ok (.istore 5, 2) := by decide +kernel
theorem dX5_richest_26 : decode cX5_richest 26 = .ok (.iload 5, 2) := by decide +kernel
theorem dX5_richest_28 : decode cX5_richest 28 = .ok (.aload_n 0, 1) := by decide +kernel
theorem dX5_richest_29 : decode cX5_richest 29 = .ok (.getfield 29, 3) := by decide +kernel
theorem dX5_richest_32 : decode cX5_richest 32 = .ok (.getfield 181, 3) := by decide +kernel
theorem dX5_richest_35 : decode cX5_richest 35 = .ok (.if_icmp .ge 37, 3) := by decide +kernel
theorem dX5_richest_38 : decode cX5_richest 38 = .ok (.aload_n 2, 1) := by decide +kernel
theorem dX5_richest_39 : decode cX5_richest 39 = .ok (.iload_n 1, 1) := by decide +kernel
theorem dX5_richest_40 : decode cX5_richest 40 = .ok (.bipush 8, 2) := by decide +kernel
theorem dX5_richest_42 : decode cX5_richest 42 = .ok (.imul, 1) := by decide +kernel
theorem dX5_richest_43 : decode cX5_richest 43 = .ok (.iload 5, 2) := by decide +kernel
theorem dX5_richest_45 : decode cX5_richest 45 = .ok (.iadd, 1) := by decide +kernel
theorem dX5_richest_46 : decode cX5_richest 46 = .ok (.iaload, 1) := by decide +kernel
theorem dX5_richest_47 : decode cX5_richest 47 = .ok (.iload 4, 2) := by decide +kernel
theorem dX5_richest_49 : decode cX5_richest 49 = .ok (.if_icmp .le 17, 3) := by decide +kernel
theorem dX5_richest_52 : decode cX5_richest 52 = .ok (.iload 5, 2) := by decide +kernel
theorem dX5_richest_54 : decode cX5_richest 54 = .ok (.istore_n 3, 1) := by decide +kernel
theorem dX5_richest_55 : decode cX5_richest 55 = .ok (.aload_n 2, 1) := by decide +kernel
theorem dX5_richest_56 : decode cX5_richest 56 = .ok (.iload_n 1, 1) := by decide +kernel
theorem dX5_richest_57 : decode cX5_richest 57 = .ok (.bipush 8, 2) := by decide +kernel
theorem dX5_richest_59 : decode cX5_richest 59 = .ok (.imul, 1) := by decide +kernel
theorem dX5_richest_60 : decode cX5_richest 60 = .ok (.iload 5, 2) := by decide +kernel
theorem dX5_richest_62 : decode cX5_richest 62 = .ok (.iadd, 1) := by decide +kernel
theorem dX5_richest_63 : decode cX5_richest 63 = .ok (.iaload, 1) := by decide +kernel
theorem dX5_richest_64 : decode cX5_richest 64 = .ok (.istore 4, 2) := by decide +kernel
theorem dX5_richest_66 : decode cX5_richest 66 = .ok (.iinc 5 1, 3) := by decide +kernel
theorem dX5_richest_69 : decode cX5_richest 69 = .ok (.goto (-43), 3) := by decide +kernel
theorem dX5_richest_72 : decode cX5_richest 72 = .ok (.iload_n 3, 1) := by decide +kernel
theorem dX5_richest_73 : decode cX5_richest 73 = .ok (.ireturn, 1) := by decide +kernel
theorem dX5_last_0 : decode cX5_last 0 = .ok (.aload_n 0, 1) := by decide +kernel
theorem dX5_last_1 : decode cX5_last 1 = .ok (.invokevirtual 143, 3) := by decide +kernel
theorem dX5_last_4 : decode cX5_last 4 = .ok (.getfield 184, 3) := by decide +kernel
theorem dX5_last_7 : decode cX5_last 7 = .ok (.ireturn, 1) := by decide +kernel
theorem dX5_price_0 : decode cX5_price 0 = .ok (.aload_n 0, 1) := by decide +kernel
theorem dX5_price_1 : decode cX5_price 1 = .ok (.iload_n 1, 1) := by decide +kernel
theorem dX5_price_2 : decode cX5_price 2 = .ok (.invokevirtual 110, 3) := by decide +kernel
theorem dX5_price_5 : decode cX5_price 5 = .ok (.ifCond .eq 11, 3) := by decide +kernel
theorem dX5_price_8 : decode cX5_price 8 = .ok (.iload_n 2, 1) := by decide +kernel
theorem dX5_price_9 : decode cX5_price 9 = .ok (.iconst 2, 1) := by decide +kernel
theorem dX5_price_10 : decode cX5_price 10 = .ok (.invokestatic 187, 3) := by decide +kernel
theorem dX5_price_13 : decode cX5_price 13 = .ok (.ifCond .ne 6, 3) := by decide +kernel
theorem dX5_price_16 : decode cX5_price 16 = .ok (.bipush (-2), 2) := by decide +kernel
theorem dX5_price_18 : decode cX5_price 18 = .ok (.ireturn, 1) := by decide +kernel
theorem dX5_price_19 : decode cX5_price 19 = .ok (.iconst (-1), 1) := by decide +kernel
theorem dX5_price_20 : decode cX5_price 20 = .ok (.istore_n 3, 1) := by decide +kernel
theorem dX5_price_21 : decode cX5_price 21 = .ok (.iconst (-1), 1) := by decide +kernel
theorem dX5_price_22 : decode cX5_price 22 = .ok (.istore 4, 2) := by decide +kernel
theorem dX5_price_24 : decode cX5_price 24 = .ok (.aload_n 0, 1) := by decide +kernel
theorem dX5_price_25 : decode cX5_price 25 = .ok (.getfield 30, 3) := by decide +kernel
theorem dX5_price_28 : decode cX5_price 28 = .ok (.aload_n 0, 1) := by decide +kernel
theorem dX5_price_29 : decode cX5_price 29 = .ok (.getfield 29, 3) := by decide +kernel
theorem dX5_price_32 : decode cX5_price 32 = .ok (.invokevirtual 191, 3) := by decide +kernel
theorem dX5_price_35 : decode cX5_price 35 = .ok (.iconst 0, 1) := by decide +kernel
theorem dX5_price_36 : decode cX5_price 36 = .ok (.istore 5, 2) := by decide +kernel
theorem dX5_price_38 : decode cX5_price 38 = .ok (.iload 5, 2) := by decide +kernel
theorem dX5_price_40 : decode cX5_price 40 = .ok (.bipush 10, 2) := by decide +kernel
theorem dX5_price_42 : decode cX5_price 42 = .ok (.if_icmp .ge 55, 3) := by decide +kernel
theorem dX5_price_45 : decode cX5_price 45 = .ok (.aload_n 0, 1) := by decide +kernel
theorem dX5_price_46 : decode cX5_price 46 = .ok (.getfield 30, 3) := by decide +kernel
theorem dX5_price_49 : decode cX5_price 49 = .ok (.getfield 113, 3) := by decide +kernel
theorem dX5_price_52 : decode cX5_price 52 = .ok (.iload_n 1, 1) := by decide +kernel
theorem dX5_price_53 : decode cX5_price 53 = .ok (.iload 5, 2) := by decide +kernel
theorem dX5_price_55 : decode cX5_price 55 = .ok (.iastore, 1) := by decide +kernel
theorem dX5_price_56 : decode cX5_price 56 = .ok (.aload_n 0, 1) := by decide +kernel
theorem dX5_price_57 : decode cX5_price 57 = .ok (.getfield 22, 3) := by decide +kernel
theorem dX5_price_60 : decode cX5_price 60 = .ok (.invokevirtual 195, 3) := by decide +kernel
theorem dX5_price_63 : decode cX5_price 63 = .ok (.aload_n 0, 1) := by decide +kernel
theorem dX5_price_64 : decode cX5_price 64 = .ok (.getfield 22, 3) := by decide +kernel
theorem dX5_price_67 : decode cX5_price 67 = .ok (.getfield 198, 3) := by decide +kernel
theorem dX5_price_70 : decode cX5_price 70 = .ok (.iload_n 1, 1) := by decide +kernel
theorem dX5_price_71 : decode cX5_price 71 = .ok (.iaload, 1) := by decide +kernel
theorem dX5_price_72 : decode cX5_price 72 = .ok (.iload 4, 2) := by decide +kernel
theorem dX5_price_74 : decode cX5_price 74 = .ok (.if_icmp .le 17, 3) := by decide +kernel
theorem dX5_price_77 : decode cX5_price 77 = .ok (.iload 5, 2) := by decide +kernel
theorem dX5_price_79 : decode cX5_price 79 = .ok (.istore_n 3, 1) := by decide +kernel
theorem dX5_price_80 : decode cX5_price 80 = .ok (.aload_n 0, 1) := by decide +kernel
theorem dX5_price_81 : decode cX5_price 81 = .ok (.getfield 22, 3) := by decide +kernel
theorem dX5_price_84 : decode cX5_price 84 = .ok (.getfield 198, 3) := by decide +kernel
theorem dX5_price_87 : decode cX5_price 87 = .ok (.iload_n 1, 1) := by decide +kernel
theorem dX5_price_88 : decode cX5_price 88 = .ok (.iaload, 1) := by decide +kernel
theorem dX5_price_89 : decode cX5_price 89 = .ok (.istore 4, 2) := by decide +kernel
theorem dX5_price_91 : decode cX5_price 91 = .ok (.iinc 5 1, 3) := by decide +kernel
theorem dX5_price_94 : decode cX5_price 94 = .ok (.goto (-56), 3) := by decide +kernel
theorem dX5_price_97 : decode cX5_price 97 = .ok (.iload_n 2, 1) := by decide +kernel
theorem dX5_price_98 : decode cX5_price 98 = .ok (.ifCond .ne 7, 3) := by decide +kernel
theorem dX5_price_101 : decode cX5_price 101 = .ok (.iload_n 3, 1) := by decide +kernel
theorem dX5_price_102 : decode cX5_price 102 = .ok (.goto 5, 3) := by decide +kernel
theorem dX5_price_105 : decode cX5_price 105 = .ok (.iload 4, 2) := by decide +kernel
theorem dX5_price_107 : decode cX5_price 107 = .ok (.ireturn, 1) := by decide +kernel
theorem dX5_lodge_0 : decode cX5_lodge 0 = .ok (.aload_n 0, 1) := by decide +kernel
theorem dX5_lodge_1 : decode cX5_lodge 1 = .ok (.iload_n 1, 1) := by decide +kernel
theorem dX5_lodge_2 : decode cX5_lodge 2 = .ok (.invokevirtual 93, 3) := by decide +kernel
theorem dX5_lodge_5 : decode cX5_lodge 5 = .ok (.ifCond .eq 11, 3) := by decide +kernel
theorem dX5_lodge_8 : decode cX5_lodge 8 = .ok (.iload_n 2, 1) := by decide +kernel
theorem dX5_lodge_9 : decode cX5_lodge 9 = .ok (.iconst 2, 1) := by decide +kernel
theorem dX5_lodge_10 : decode cX5_lodge 10 = .ok (.invokestatic 187, 3) := by decide +kernel
theorem dX5_lodge_13 : decode cX5_lodge 13 = .ok (.ifCond .ne 6, 3) := by decide +kernel
theorem dX5_lodge_16 : decode cX5_lodge 16 = .ok (.bipush (-2), 2) := by decide +kernel
theorem dX5_lodge_18 : decode cX5_lodge 18 = .ok (.ireturn, 1) := by decide +kernel
theorem dX5_lodge_19 : decode cX5_lodge 19 = .ok (.iconst (-1), 1) := by decide +kernel
theorem dX5_lodge_20 : decode cX5_lodge 20 = .ok (.istore_n 3, 1) := by decide +kernel
theorem dX5_lodge_21 : decode cX5_lodge 21 = .ok (.iconst (-1), 1) := by decide +kernel
theorem dX5_lodge_22 : decode cX5_lodge 22 = .ok (.istore 4, 2) := by decide +kernel
theorem dX5_lodge_24 : decode cX5_lodge 24 = .ok (.aload_n 0, 1) := by decide +kernel
theorem dX5_lodge_25 : decode cX5_lodge 25 = .ok (.getfield 30, 3) := by decide +kernel
theorem dX5_lodge_28 : decode cX5_lodge 28 = .ok (.aload_n 0, 1) := by decide +kernel
theorem dX5_lodge_29 : decode cX5_lodge 29 = .ok (.getfield 29, 3) := by decide +kernel
theorem dX5_lodge_32 : decode cX5_lodge 32 = .ok (.invokevirtual 191, 3) := by decide +kernel
theorem dX5_lodge_35 : decode cX5_lodge 35 = .ok (.iconst 0, 1) := by decide +kernel
theorem dX5_lodge_36 : decode cX5_lodge 36 = .ok (.istore 5, 2) := by decide +kernel
theorem dX5_lodge_38 : decode cX5_lodge 38 = .ok (.iload 5, 2) := by decide +kernel
theorem dX5_lodge_40 : decode cX5_lodge 40 = .ok (.aload_n 0, 1) := by decide +kernel
theorem dX5_lodge_41 : decode cX5_lodge 41 = .ok (.getfield 29, 3) := by decide +kernel
theorem dX5_lodge_44 : decode cX5_lodge 44 = .ok (.getfield 181, 3) := by decide +kernel
theorem dX5_lodge_47 : decode cX5_lodge 47 = .ok (.if_icmp .ge 95, 3) := by decide +kernel
theorem dX5_lodge_50 : decode cX5_lodge 50 = .ok (.aload_n 0, 1) := by decide +kernel
theorem dX5_lodge_51 : decode cX5_lodge 51 = .ok (.getfield 30, 3) := by decide +kernel
theorem dX5_lodge_54 : decode cX5_lodge 54 = .ok (.getfield 107, 3) := by decide +kernel
theorem dX5_lodge_57 : decode cX5_lodge 57 = .ok (.iload_n 1, 1) := by decide +kernel
theorem dX5_lodge_58 : decode cX5_lodge 58 = .ok (.iload 5, 2) := by decide +kernel
theorem dX5_lodge_60 : decode cX5_lodge 60 = .ok (.iastore, 1) := by decide +kernel
theorem dX5_lodge_61 : decode cX5_lodge 61 = .ok (.aload_n 0, 1) := by decide +kernel
theorem dX5_lodge_62 : decode cX5_lodge 62 = .ok (.getfield 22, 3) := by decide +kernel
theorem dX5_lodge_65 : decode cX5_lodge 65 = .ok (.invokevirtual 195, 3) := by decide +kernel
theorem dX5_lodge_68 : decode cX5_lodge 68 = .ok (.aload_n 0, 1) := by decide +kernel
theorem dX5_lodge_69 : decode cX5_lodge 69 = .ok (.getfield 22, 3) := by decide +kernel
theorem dX5_lodge_72 : decode cX5_lodge 72 = .ok (.getfield 201, 3) := by decide +kernel
theorem dX5_lodge_75 : decode cX5_lodge 75 = .ok (.iload_n 1, 1) := by decide +kernel
theorem dX5_lodge_76 : decode cX5_lodge 76 = .ok (.iaload, 1) := by decide +kernel
theorem dX5_lodge_77 : decode cX5_lodge 77 = .ok (.iconst (-1), 1) := by decide +kernel
theorem dX5_lodge_78 : decode cX5_lodge 78 = .ok (.if_icmp .eq 7, 3) := by decide +kernel
theorem dX5_lodge_81 : decode cX5_lodge 81 = .ok (.iconst 1, 1) := by decide +kernel
theorem dX5_lodge_82 : decode cX5_lodge 82 = .ok (.goto 4, 3) := by decide +kernel
theorem dX5_lodge_85 : decode cX5_lodge 85 = .ok (.iconst 0, 1) := by decide +kernel
theorem dX5_lodge_86 : decode cX5_lodge 86 = .ok (.istore 6, 2) := by decide +kernel
theorem dX5_lodge_88 : decode cX5_lodge 88 = .ok (.aload_n 0, 1) := by decide +kernel
theorem dX5_lodge_89 : decode cX5_lodge 89 = .ok (.getfield 22, 3) := by decide +kernel
theorem dX5_lodge_92 : decode cX5_lodge 92 = .ok (.getfield 204, 3) := by decide +kernel
theorem dX5_lodge_95 : decode cX5_lodge 95 = .ok (.iload_n 1, 1) := by decide +kernel
theorem dX5_lodge_96 : decode cX5_lodge 96 = .ok (.iaload, 1) := by decide +kernel
theorem dX5_lodge_97 : decode cX5_lodge 97 = .ok (.iconst (-1), 1) := by decide +kernel
theorem dX5_lodge_98 : decode cX5_lodge 98 = .ok (.if_icmp .ne 8, 3) := by decide +kernel
theorem dX5_lodge_101 : decode cX5_lodge 101 = .ok (.bipush 30, 2) := by decide +kernel
theorem dX5_lodge_103 : decode cX5_lodge 103 = .ok (.goto 12, 3) := by decide +kernel
theorem dX5_lodge_106 : decode cX5_lodge 106 = .ok (.aload_n 0, 1) := by decide +kernel
theorem dX5_lodge_107 : decode cX5_lodge 107 = .ok (.getfield 22, 3) := by decide +kernel
theorem dX5_lodge_110 : decode cX5_lodge 110 = .ok (.getfield 204, 3) := by decide +kernel
theorem dX5_lodge_113 : decode cX5_lodge 113 = .ok (.iload_n 1, 1) := by decide +kernel
theorem dX5_lodge_114 : decode cX5_lodge 114 = .ok (.iaload, 1) := by decide +kernel
theorem dX5_lodge_115 : decode cX5_lodge 115 = .ok (.istore 7, 2) := by decide +kernel
theorem dX5_lodge_117 : decode cX5_lodge 117 = .ok (.iload 6, 2) := by decide +kernel
theorem dX5_lodge_119 : decode cX5_lodge 119 = .ok (.ifCond .eq 17, 3) := by decide +kernel
theorem dX5_lodge_122 : decode cX5_lodge 122 = .ok (.iload 7, 2) := by decide +kernel
theorem dX5_lodge_124 : decode cX5_lodge 124 = .ok (.iload 4, 2) := by decide +kernel
theorem dX5_lodge_126 : decode cX5_lodge 126 = .ok (.if_icmp .le 10, 3) := by decide +kernel
theorem dX5_lodge_129 : decode cX5_lodge 129 = .ok (.iload 5, 2) := by decide +kernel
theorem dX5_lodge_131 : decode cX5_lodge 131 = .ok (.istore_n 3, 1) := by decide +kernel
theorem dX5_lodge_132 : decode cX5_lodge 132 = .ok (.iload 7, 2) := by decide +kernel
theorem dX5_lodge_134 : decode cX5_lodge 134 = .ok (.istore 4, 2) := by decide +kernel
theorem dX5_lodge_136 : decode cX5_lodge 136 = .ok (.iinc 5 1, 3) := by decide +kernel
theorem dX5_lodge_139 : decode cX5_lodge 139 = .ok (.goto (-101), 3) := by decide +kernel
theorem dX5_lodge_142 : decode cX5_lodge 142 = .ok (.iload_n 2, 1) := by decide +kernel
theorem dX5_lodge_143 : decode cX5_lodge 143 = .ok (.ifCond .ne 5, 3) := by decide +kernel
theorem dX5_lodge_146 : decode cX5_lodge 146 = .ok (.iload_n 3, 1) := by decide +kernel
theorem dX5_lodge_147 : decode cX5_lodge 147 = .ok (.ireturn, 1) := by decide +kernel
theorem dX5_lodge_148 : decode cX5_lodge 148 = .ok (.iload 4, 2) := by decide +kernel
theorem dX5_lodge_150 : decode cX5_lodge 150 = .ok (.bipush 30, 2) := by decide +kernel
theorem dX5_lodge_152 : decode cX5_lodge 152 = .ok (.if_icmp .ne 7, 3) := by decide +kernel
theorem dX5_lodge_155 : decode cX5_lodge 155 = .ok (.iconst (-1), 1) := by decide +kernel
theorem dX5_lodge_156 : decode cX5_lodge 156 = .ok (.goto 5, 3) := by decide +kernel
theorem dX5_lodge_159 : decode cX5_lodge 159 = .ok (.iload 4, 2) := by decide +kernel
theorem dX5_lodge_161 : decode cX5_lodge 161 = .ok (.ireturn, 1) := by decide +kernel
theorem dX5_look_0 : decode cX5_look 0 = .ok (.aload_n 0, 1) := by decide +kernel
theorem dX5_look_1 : decode cX5_look 1 = .ok (.iload_n 1, 1) := by decide +kernel
theorem dX5_look_2 : decode cX5_look 2 = .ok (.invokevirtual 119, 3) := by decide +kernel
theorem dX5_look_5 : decode cX5_look 5 = .ok (.ifCond .ne 6, 3) := by decide +kernel
theorem dX5_look_8 : decode cX5_look 8 = .ok (.bipush (-2), 2) := by decide +kernel
theorem dX5_look_10 : decode cX5_look 10 = .ok (.ireturn, 1) := by decide +kernel
theorem dX5_look_11 : decode cX5_look 11 = .ok (.aload_n 0, 1) := by decide +kernel
theorem dX5_look_12 : decode cX5_look 12 = .ok (.getfield 30, 3) := by decide +kernel
theorem dX5_look_15 : decode cX5_look 15 = .ok (.aload_n 0, 1) := by decide +kernel
theorem dX5_look_16 : decode cX5_look 16 = .ok (.getfield 29, 3) := by decide +kernel
theorem dX5_look_19 : decode cX5_look 19 = .ok (.invokevirtual 191, 3) := by decide +kernel
theorem dX5_look_22 : decode cX5_look 22 = .ok (.iconst 0, 1) := by decide +kernel
theorem dX5_look_23 : decode cX5_look 23 = .ok (.istore_n 2, 1) := by decide +kernel
theorem dX5_look_24 : decode cX5_look 24 = .ok (.iload_n 2, 1) := by decide +kernel
theorem dX5_look_25 : decode cX5_look 25 = .ok (.bipush 10, 2) := by decide +kernel
theorem dX5_look_27 : decode cX5_look 27 = .ok (.if_icmp .ge 51, 3) := by decide +kernel
theorem dX5_look_30 : decode cX5_look 30 = .ok (.aload_n 0, 1) := by decide +kernel
theorem dX5_look_31 : decode cX5_look 31 = .ok (.getfield 30, 3) := by decide +kernel
theorem dX5_look_34 : decode cX5_look 34 = .ok (.getfield 131, 3) := by decide +kernel
theorem dX5_look_37 : decode cX5_look 37 = .ok (.iload_n 1, 1) := by decide +kernel
theorem dX5_look_38 : decode cX5_look 38 = .ok (.iload_n 2, 1) := by decide +kernel
theorem dX5_look_39 : decode cX5_look 39 = .ok (.iastore, 1) := by decide +kernel
theorem dX5_look_40 : decode cX5_look 40 = .ok (.aload_n 0, 1) := by decide +kernel
theorem dX5_look_41 : decode cX5_look 41 = .ok (.getfield 22, 3) := by decide +kernel
theorem dX5_look_44 : decode cX5_look 44 = .ok (.invokevirtual 195, 3) := by decide +kernel
theorem dX5_look_47 : decode cX5_look 47 = .ok (.aload_n 0, 1) := by decide +kernel
theorem dX5_look_48 : decode cX5_look 48 = .ok (.getfield 22, 3) := by decide +kernel
theorem dX5_look_51 : decode cX5_look 51 = .ok (.iload_n 1, 1) := by decide +kernel
theorem dX5_look_52 : decode cX5_look 52 = .ok (.invokevirtual 172, 3) := by decide +kernel
theorem dX5_look_55 : decode cX5_look 55 = .ok (.aload_n 0, 1) := by decide +kernel
theorem dX5_look_56 : decode cX5_look 56 = .ok (.getfield 22, 3) := by decide +kernel
theorem dX5_look_59 : decode cX5_look 59 = .ok (.getfield 169, 3) := by decide +kernel
theorem dX5_look_62 : decode cX5_look 62 = .ok (.iload_n 1, 1) := by decide +kernel
theorem dX5_look_63 : decode cX5_look 63 = .ok (.iaload, 1) := by decide +kernel
theorem dX5_look_64 : decode cX5_look 64 = .ok (.invokestatic 176, 3) := by decide +kernel
theorem dX5_look_67 : decode cX5_look 67 = .ok (.if_icmp .ne 5, 3) := by decide +kernel
theorem dX5_look_70 : decode cX5_look 70 = .ok (.iload_n 2, 1) := by decide +kernel
theorem dX5_look_71 : decode cX5_look 71 = .ok (.ireturn, 1) := by decide +kernel
theorem dX5_look_72 : decode cX5_look 72 = .ok (.iinc 2 1, 3) := by decide +kernel
theorem dX5_look_75 : decode cX5_look 75 = .ok (.goto (-51), 3) := by decide +kernel
theorem dX5_look_78 : decode cX5_look 78 = .ok (.iconst (-1), 1) := by decide +kernel
theorem dX5_look_79 : decode cX5_look 79 = .ok (.ireturn, 1) := by decide +kernel
theorem dX5_leave_0 : decode cX5_leave 0 = .ok (.aload_n 0, 1) := by decide +kernel
theorem dX5_leave_1 : decode cX5_leave 1 = .ok (.iload_n 1, 1) := by decide +kernel
theorem dX5_leave_2 : decode cX5_leave 2 = .ok (.invokevirtual 93, 3) := by decide +kernel
theorem dX5_leave_5 : decode cX5_leave 5 = .ok (.ifCond .eq 13, 3) := by decide +kernel
theorem dX5_leave_8 : decode cX5_leave 8 = .ok (.iload_n 2, 1) := by decide +kernel
theorem dX5_leave_9 : decode cX5_leave 9 = .ok (.iconst (-1), 1) := by decide +kernel
theorem dX5_leave_10 : decode cX5_leave 10 = .ok (.if_icmp .lt 8, 3) := by decide +kernel
theorem dX5_leave_13 : decode cX5_leave 13 = .ok (.iload_n 2, 1) := by decide +kernel
theorem dX5_leave_14 : decode cX5_leave 14 = .ok (.iconst 2, 1) := by decide +kernel
theorem dX5_leave_15 : decode cX5_leave 15 = .ok (.if_icmp .lt 6, 3) := by decide +kernel
theorem dX5_leave_18 : decode cX5_leave 18 = .ok (.bipush (-2), 2) := by decide +kernel
theorem dX5_leave_20 : decode cX5_leave 20 = .ok (.ireturn, 1) := by decide +kernel
theorem dX5_leave_21 : decode cX5_leave 21 = .ok (.aload_n 0, 1) := by decide +kernel
theorem dX5_leave_22 : decode cX5_leave 22 = .ok (.invokevirtual 207, 3) := by decide +kernel
theorem dX5_leave_25 : decode cX5_leave 25 = .ok (.aload_n 0, 1) := by decide +kernel
theorem dX5_leave_26 : decode cX5_leave 26 = .ok (.iload_n 1, 1) := by decide +kernel
theorem dX5_leave_27 : decode cX5_leave 27 = .ok (.invokevirtual 210, 3) := by decide +kernel
theorem dX5_leave_30 : decode cX5_leave 30 = .ok (.istore_n 3, 1) := by decide +kernel
theorem dX5_leave_31 : decode cX5_leave 31 = .ok (.iload_n 3, 1) := by decide +kernel
theorem dX5_leave_32 : decode cX5_leave 32 = .ok (.iconst (-1), 1) := by decide +kernel
theorem dX5_leave_33 : decode cX5_leave 33 = .ok (.if_icmp .ne 5, 3) := by decide +kernel
theorem dX5_leave_36 : decode cX5_leave 36 = .ok (.iconst (-1), 1) := by decide +kernel
theorem dX5_leave_37 : decode cX5_leave 37 = .ok (.ireturn, 1) := by decide +kernel
theorem dX5_leave_38 : decode cX5_leave 38 = .ok (.iload_n 3, 1) := by decide +kernel
theorem dX5_leave_39 : decode cX5_leave 39 = .ok (.invokestatic 176, 3) := by decide +kernel
theorem dX5_leave_42 : decode cX5_leave 42 = .ok (.istore 4, 2) := by decide +kernel
theorem dX5_leave_44 : decode cX5_leave 44 = .ok (.iload_n 2, 1) := by decide +kernel
theorem dX5_leave_45 : decode cX5_leave 45 = .ok (.iconst (-1), 1) := by decide +kernel
theorem dX5_leave_46 : decode cX5_leave 46 = .ok (.if_icmp .ne 6, 3) := by decide +kernel
theorem dX5_leave_49 : decode cX5_leave 49 = .ok (.iload 4, 2) := by decide +kernel
theorem dX5_leave_51 : decode cX5_leave 51 = .ok (.ireturn, 1) := by decide +kernel
theorem dX5_leave_52 : decode cX5_leave 52 = .ok (.iload_n 2, 1) := by decide +kernel
theorem dX5_leave_53 : decode cX5_leave 53 = .ok (.iload 4, 2) := by decide +kernel
theorem dX5_leave_55 : decode cX5_leave 55 = .ok (.if_icmp .lt 5, 3) := by decide +kernel
theorem dX5_leave_58 : decode cX5_leave 58 = .ok (.iconst (-1), 1) := by decide +kernel
theorem dX5_leave_59 : decode cX5_leave 59 = .ok (.ireturn, 1) := by decide +kernel
theorem dX5_leave_60 : decode cX5_leave 60 = .ok (.iload_n 2, 1) := by decide +kernel
theorem dX5_leave_61 : decode cX5_leave 61 = .ok (.ifCond .ne 10, 3) := by decide +kernel
theorem dX5_leave_64 : decode cX5_leave 64 = .ok (.iload_n 3, 1) := by decide +kernel
theorem dX5_leave_65 : decode cX5_leave 65 = .ok (.invokestatic 213, 3) := by decide +kernel
theorem dX5_leave_68 : decode cX5_leave 68 = .ok (.goto 10, 3) := by decide +kernel
theorem dX5_leave_71 : decode cX5_leave 71 = .ok (.bipush 31, 2) := by decide +kernel
theorem dX5_leave_73 : decode cX5_leave 73 = .ok (.iload_n 3, 1) := by decide +kernel
theorem dX5_leave_74 : decode cX5_leave 74 = .ok (.invokestatic 216, 3) := by decide +kernel
theorem dX5_leave_77 : decode cX5_leave 77 = .ok (.isub, 1) := by decide +kernel
theorem dX5_leave_78 : decode cX5_leave 78 = .ok (.ireturn, 1) := by decide +kernel
theorem dX5_seen_0 : decode cX5_seen 0 = .ok (.aload_n 0, 1) := by decide +kernel
theorem dX5_seen_1 : decode cX5_seen 1 = .ok (.getfield 43, 3) := by decide +kernel
theorem dX5_seen_4 : decode cX5_seen 4 = .ok (.iload_n 1, 1) := by decide +kernel
theorem dX5_seen_5 : decode cX5_seen 5 = .ok (.iload_n 2, 1) := by decide +kernel
theorem dX5_seen_6 : decode cX5_seen 6 = .ok (.iload_n 3, 1) := by decide +kernel
theorem dX5_seen_7 : decode cX5_seen 7 = .ok (.invokevirtual 219, 3) := by decide +kernel
theorem dX5_seen_10 : decode cX5_seen 10 = .ok (.ireturn, 1) := by decide +kernel
theorem dX5_forget_0 : decode cX5_forget 0 = .ok (.aload_n 0, 1) := by decide +kernel
theorem dX5_forget_1 : decode cX5_forget 1 = .ok (.getfield 43, 3) := by decide +kernel
theorem dX5_forget_4 : decode cX5_forget 4 = .ok (.getfield 223, 3) := by decide +kernel
theorem dX5_forget_7 : decode cX5_forget 7 = .ok (.istore_n 1, 1) := by decide +kernel
theorem dX5_forget_8 : decode cX5_forget 8 = .ok (.aload_n 0, 1) := by decide +kernel
theorem dX5_forget_9 : decode cX5_forget 9 = .ok (.getfield 43, 3) := by decide +kernel
theorem dX5_forget_12 : decode cX5_forget 12 = .ok (.iconst 0, 1) := by decide +kernel
theorem dX5_forget_13 : decode cX5_forget 13 = .ok (.putfield 223, 3) := by decide +kernel
theorem dX5_forget_16 : decode cX5_forget 16 = .ok (.iload_n 1, 1) := by decide +kernel
theorem dX5_forget_17 : decode cX5_forget 17 = .ok (.ireturn, 1) := by decide +kernel
theorem dX5_read_0 : decode cX5_read 0 = .ok (.iload_n 1, 1) := by decide +kernel
theorem dX5_read_1 : decode cX5_read 1 = .ok (.iconst 4, 1) := by decide +kernel
theorem dX5_read_2 : decode cX5_read 2 = .ok (.invokestatic 187, 3) := by decide +kernel
theorem dX5_read_5 : decode cX5_read 5 = .ok (.ifCond .ne 6, 3) := by decide +kernel
theorem dX5_read_8 : decode cX5_read 8 = .ok (.bipush (-2), 2) := by decide +kernel
theorem dX5_read_10 : decode cX5_read 10 = .ok (.ireturn, 1) := by decide +kernel
theorem dX5_read_11 : decode cX5_read 11 = .ok (.aload_n 0, 1) := by decide +kernel
theorem dX5_read_12 : decode cX5_read 12 = .ok (.getfield 49, 3) := by decide +kernel
theorem dX5_read_15 : decode cX5_read 15 = .ok (.iload_n 1, 1) := by decide +kernel
theorem dX5_read_16 : decode cX5_read 16 = .ok (.aaload, 1) := by decide +kernel
theorem dX5_read_17 : decode cX5_read 17 = .ok (.astore_n 2, 1) := by decide +kernel
theorem dX5_read_18 : decode cX5_read 18 = .ok (.aload_n 2, 1) := by decide +kernel
theorem dX5_read_19 : decode cX5_read 19 = .ok (.getfield 224, 3) := by decide +kernel
theorem dX5_read_22 : decode cX5_read 22 = .ok (.iconst (-1), 1) := by decide +kernel
theorem dX5_read_23 : decode cX5_read 23 = .ok (.if_icmp .ne 9, 3) := by decide +kernel
theorem dX5_read_26 : decode cX5_read 26 = .ok (.aload_n 0, 1) := by decide +kernel
theorem dX5_read_27 : decode cX5_read 27 = .ok (.iconst 1, 1) := by decide +kernel
theorem dX5_read_28 : decode cX5_read 28 = .ok (.invokevirtual 227, 3) := by decide +kernel
theorem dX5_read_31 : decode cX5_read 31 = .ok (.ireturn, 1) := by decide +kernel
theorem dX5_read_32 : decode cX5_read 32 = .ok (.iconst 0, 1) := by decide +kernel
theorem dX5_read_33 : decode cX5_read 33 = .ok (.istore_n 3, 1) := by decide +kernel
theorem dX5_read_34 : decode cX5_read 34 = .ok (.iconst 0, 1) := by decide +kernel
theorem dX5_read_35 : decode cX5_read 35 = .ok (.istore 4, 2) := by decide +kernel
theorem dX5_read_37 : decode cX5_read 37 = .ok (.iload 4, 2) := by decide +kernel
theorem dX5_read_39 : decode cX5_read 39 = .ok (.iconst 2, 1) := by decide +kernel
theorem dX5_read_40 : decode cX5_read 40 = .ok (.iadd, 1) := by decide +kernel
theorem dX5_read_41 : decode cX5_read 41 = .ok (.aload_n 2, 1) := by decide +kernel
theorem dX5_read_42 : decode cX5_read 42 = .ok (.getfield 230, 3) := by decide +kernel
theorem dX5_read_45 : decode cX5_read 45 = .ok (.if_icmp .ge 59, 3) := by decide +kernel
theorem dX5_read_48 : decode cX5_read 48 = .ok (.iload 4, 2) := by decide +kernel
theorem dX5_read_50 : decode cX5_read 50 = .ok (.iconst 2, 1) := by decide +kernel
theorem dX5_read_51 : decode cX5_read 51 = .ok (.iadd, 1) := by decide +kernel
theorem dX5_read_52 : decode cX5_read 52 = .ok (.bipush 60, 2) := by decide +kernel
theorem dX5_read_54 : decode cX5_read 54 = .ok (.if_icmp .ge 50, 3) := by decide +kernel
theorem dX5_read_57 : decode cX5_read 57 = .ok (.aload_n 0, 1) := by decide +kernel
theorem dX5_read_58 : decode cX5_read 58 = .ok (.getfield 43, 3) := by decide +kernel
theorem dX5_read_61 : decode cX5_read 61 = .ok (.aload_n 2, 1) := by decide +kernel
theorem dX5_read_62 : decode cX5_read 62 = .ok (.getfield 231, 3) := by decide +kernel
theorem dX5_read_65 : decode cX5_read 65 = .ok (.iload 4, 2) := by decide +kernel
theorem dX5_read_67 : decode cX5_read 67 = .ok (.iaload, 1) := by decide +kernel
theorem dX5_read_68 : decode cX5_read 68 = .ok (.aload_n 2, 1) := by decide +kernel
theorem dX5_read_69 : decode cX5_read 69 = .ok (.getfield 231, 3) := by decide +kernel
theorem dX5_read_72 : decode cX5_read 72 = .ok (.iload 4, 2) := by decide +kernel
theorem dX5_read_74 : decode cX5_read 74 = .ok (.iconst 1, 1) := by decide +kernel
theorem dX5_read_75 : decode cX5_read 75 = .ok (.iadd, 1) := by decide +kernel
theorem dX5_read_76 : decode cX5_read 76 = .ok (.iaload, 1) := by decide +kernel
theorem dX5_read_77 : decode cX5_read 77 = .ok (.aload_n 2, 1) := by decide +kernel
theorem dX5_read_78 : decode cX5_read 78 = .ok (.getfield 231, 3) := by decide +kernel
theorem dX5_read_81 : decode cX5_read 81 = .ok (.iload 4, 2) := by decide +kernel
theorem dX5_read_83 : decode cX5_read 83 = .ok (.iconst 2, 1) := by decide +kernel
theorem dX5_read_84 : decode cX5_read 84 = .ok (.iadd, 1) := by decide +kernel
theorem dX5_read_85 : decode cX5_read 85 = .ok (.iaload, 1) := by decide +kernel
theorem dX5_read_86 : decode cX5_read 86 = .ok (.invokevirtual 219, 3) := by decide +kernel
theorem dX5_read_89 : decode cX5_read 89 = .ok (.ifCond .ge 6, 3) := by decide +kernel
theorem dX5_read_92 : decode cX5_read 92 = .ok (.goto 12, 3) := by decide +kernel
theorem dX5_read_95 : decode cX5_read 95 = .ok (.iinc 3 1, 3) := by decide +kernel
theorem dX5_read_98 : decode cX5_read 98 = .ok (.iinc 4 3, 3) := by decide +kernel
theorem dX5_read_101 : decode cX5_read 101 = .ok (.goto (-64), 3) := by decide +kernel
theorem dX5_read_104 : decode cX5_read 104 = .ok (.iload_n 3, 1) := by decide +kernel
theorem dX5_read_105 : decode cX5_read 105 = .ok (.ireturn, 1) := by decide +kernel
theorem dX5_never_0 : decode cX5_never 0 = .ok (.aload_n 0, 1) := by decide +kernel
theorem dX5_never_1 : decode cX5_never 1 = .ok (.iconst 0, 1) := by decide +kernel
theorem dX5_never_2 : decode cX5_never 2 = .ok (.invokevirtual 234, 3) := by decide +kernel
theorem dX5_never_5 : decode cX5_never 5 = .ok (.ireturn, 1) := by decide +kernel
theorem dX5_was_0 : decode cX5_was 0 = .ok (.aload_n 0, 1) := by decide +kernel
theorem dX5_was_1 : decode cX5_was 1 = .ok (.iload_n 1, 1) := by decide +kernel
theorem dX5_was_2 : decode cX5_was 2 = .ok (.invokevirtual 93, 3) := by decide +kernel
theorem dX5_was_5 : decode cX5_was 5 = .ok (.ifCond .eq 11, 3) := by decide +kernel
theorem dX5_was_8 : decode cX5_was 8 = .ok (.iload_n 2, 1) := by decide +kernel
theorem dX5_was_9 : decode cX5_was 9 = .ok (.iconst 2, 1) := by decide +kernel
theorem dX5_was_10 : decode cX5_was 10 = .ok (.invokestatic 187, 3) := by decide +kernel
theorem dX5_was_13 : decode cX5_was 13 = .ok (.ifCond .ne 6, 3) := by decide +kernel
theorem dX5_was_16 : decode cX5_was 16 = .ok (.bipush (-2), 2) := by decide +kernel
theorem dX5_was_18 : decode cX5_was 18 = .ok (.ireturn, 1) := by decide +kernel
theorem dX5_was_19 : decode cX5_was 19 = .ok (.aload_n 0, 1) := by decide +kernel
theorem dX5_was_20 : decode cX5_was 20 = .ok (.getfield 30, 3) := by decide +kernel
theorem dX5_was_23 : decode cX5_was 23 = .ok (.aload_n 0, 1) := by decide +kernel
theorem dX5_was_24 : decode cX5_was 24 = .ok (.getfield 29, 3) := by decide +kernel
theorem dX5_was_27 : decode cX5_was 27 = .ok (.invokevirtual 191, 3) := by decide +kernel
theorem dX5_was_30 : decode cX5_was 30 = .ok (.iload_n 2, 1) := by decide +kernel
theorem dX5_was_31 : decode cX5_was 31 = .ok (.ifCond .ne 13, 3) := by decide +kernel
theorem dX5_was_34 : decode cX5_was 34 = .ok (.aload_n 0, 1) := by decide +kernel
theorem dX5_was_35 : decode cX5_was 35 = .ok (.getfield 30, 3) := by decide +kernel
theorem dX5_was_38 : decode cX5_was 38 = .ok (.getfield 96, 3) := by decide +kernel
theorem dX5_was_41 : decode cX5_was 41 = .ok (.goto 10, 3) := by decide +kernel
theorem dX5_was_44 : decode cX5_was 44 = .ok (.aload_n 0, 1) := by decide +kernel
theorem dX5_was_45 : decode cX5_was 45 = .ok (.getfield 30, 3) := by decide +kernel
theorem dX5_was_48 : decode cX5_was 48 = .ok (.getfield 101, 3) := by decide +kernel
theorem dX5_was_51 : decode cX5_was 51 = .ok (.astore_n 3, 1) := by decide +kernel
theorem dX5_was_52 : decode cX5_was 52 = .ok (.iload_n 2, 1) := by decide +kernel
theorem dX5_was_53 : decode cX5_was 53 = .ok (.ifCond .ne 7, 3) := by decide +kernel
theorem dX5_was_56 : decode cX5_was 56 = .ok (.iconst 4, 1) := by decide +kernel
theorem dX5_was_57 : decode cX5_was 57 = .ok (.goto 5, 3) := by decide +kernel
theorem dX5_was_60 : decode cX5_was 60 = .ok (.bipush 10, 2) := by decide +kernel
theorem dX5_was_62 : decode cX5_was 62 = .ok (.istore 4, 2) := by decide +kernel
theorem dX5_was_64 : decode cX5_was 64 = .ok (.iconst 0, 1) := by decide +kernel
theorem dX5_was_65 : decode cX5_was 65 = .ok (.istore 5, 2) := by decide +kernel
theorem dX5_was_67 : decode cX5_was 67 = .ok (.iconst 0, 1) := by decide +kernel
theorem dX5_was_68 : decode cX5_was 68 = .ok (.istore 6, 2) := by decide +kernel
theorem dX5_was_70 : decode cX5_was 70 = .ok (.iload 6, 2) := by decide +kernel
theorem dX5_was_72 : decode cX5_was 72 = .ok (.iload 4, 2) := by decide +kernel
theorem dX5_was_74 : decode cX5_was 74 = .ok (.if_icmp .ge 44, 3) := by decide +kernel
theorem dX5_was_77 : decode cX5_was 77 = .ok (.aload_n 3, 1) := by decide +kernel
theorem dX5_was_78 : decode cX5_was 78 = .ok (.iload_n 1, 1) := by decide +kernel
theorem dX5_was_79 : decode cX5_was 79 = .ok (.iload 6, 2) := by decide +kernel
theorem dX5_was_81 : decode cX5_was 81 = .ok (.iastore, 1) := by decide +kernel
theorem dX5_was_82 : decode cX5_was 82 = .ok (.aload_n 0, 1) := by decide +kernel
theorem dX5_was_83 : decode cX5_was 83 = .ok (.getfield 22, 3) := by decide +kernel
theorem dX5_was_86 : decode cX5_was 86 = .ok (.invokevirtual 195, 3) := by decide +kernel
theorem dX5_was_89 : decode cX5_was 89 = .ok (.aload_n 0, 1) := by decide +kernel
theorem dX5_was_90 : decode cX5_was 90 = .ok (.getfield 43, 3) := by decide +kernel
theorem dX5_was_93 : decode cX5_was 93 = .ok (.aload_n 0, 1) := by decide +kernel
theorem dX5_was_94 : decode cX5_was 94 = .ok (.getfield 22, 3) := by decide +kernel
theorem dX5_was_97 : decode cX5_was 97 = .ok (.invokevirtual 237, 3) := by decide +kernel
theorem dX5_was_100 : decode cX5_was 100 = .ok (.ifCond .eq 12, 3) := by decide +kernel
theorem dX5_was_103 : decode cX5_was 103 = .ok (.iload 5, 2) := by decide +kernel
theorem dX5_was_105 : decode cX5_was 105 = .ok (.iconst 1, 1) := by decide +kernel
theorem dX5_was_106 : decode cX5_was 106 = .ok (.iload 6, 2) := by decide +kernel
theorem dX5_was_108 : decode cX5_was 108 = .ok (.ishl, 1) := by decide +kernel
theorem dX5_was_109 : decode cX5_was 109 = .ok (.ior, 1) := by decide +kernel
theorem dX5_was_110 : decode cX5_was 110 = .ok (.istore 5, 2) := by decide +kernel
theorem dX5_was_112 : decode cX5_was 112 = .ok (.iinc 6 1, 3) := by decide +kernel
theorem dX5_was_115 : decode cX5_was 115 = .ok (.goto (-45), 3) := by decide +kernel
theorem dX5_was_118 : decode cX5_was 118 = .ok (.iload 5, 2) := by decide +kernel
theorem dX5_was_120 : decode cX5_was 120 = .ok (.ireturn, 1) := by decide +kernel
theorem dX5_ask_0 : decode cX5_ask 0 = .ok (.iload_n 1, 1) := by decide +kernel
theorem dX5_ask_1 : decode cX5_ask 1 = .ok (.invokestatic 140, 3) := by decide +kernel
theorem dX5_ask_4 : decode cX5_ask 4 = .ok (.ifCond .ne 6, 3) := by decide +kernel
theorem dX5_ask_7 : decode cX5_ask 7 = .ok (.bipush (-2), 2) := by decide +kernel
theorem dX5_ask_9 : decode cX5_ask 9 = .ok (.ireturn, 1) := by decide +kernel
theorem dX5_ask_10 : decode cX5_ask 10 = .ok (.aload_n 0, 1) := by decide +kernel
theorem dX5_ask_11 : decode cX5_ask 11 = .ok (.iload_n 1, 1) := by decide +kernel
theorem dX5_ask_12 : decode cX5_ask 12 = .ok (.invokevirtual 234, 3) := by decide +kernel
theorem dX5_ask_15 : decode cX5_ask 15 = .ok (.istore_n 2, 1) := by decide +kernel
theorem dX5_ask_16 : decode cX5_ask 16 = .ok (.iconst (-1), 1) := by decide +kernel
theorem dX5_ask_17 : decode cX5_ask 17 = .ok (.istore_n 3, 1) := by decide +kernel
theorem dX5_ask_18 : decode cX5_ask 18 = .ok (.bipush 7, 2) := by decide +kernel
theorem dX5_ask_20 : decode cX5_ask 20 = .ok (.istore 4, 2) := by decide +kernel
theorem dX5_ask_22 : decode cX5_ask 22 = .ok (.iconst 0, 1) := by decide +kernel
theorem dX5_ask_23 : decode cX5_ask 23 = .ok (.istore 5, 2) := by decide +kernel
theorem dX5_ask_25 : decode cX5_ask 25 = .ok (.iload 5, 2) := by decide +kernel
theorem dX5_ask_27 : decode cX5_ask 27 = .ok (.aload_n 0, 1) := by decide +kernel
theorem dX5_ask_28 : decode cX5_ask 28 = .ok (.getfield 29, 3) := by decide +kernel
theorem dX5_ask_31 : decode cX5_ask 31 = .ok (.getfield 181, 3) := by decide +kernel
theorem dX5_ask_34 : decode cX5_ask 34 = .ok (.if_icmp .ge 32, 3) := by decide +kernel
theorem dX5_ask_37 : decode cX5_ask 37 = .ok (.aload_n 0, 1) := by decide +kernel
theorem dX5_ask_38 : decode cX5_ask 38 = .ok (.iload_n 2, 1) := by decide +kernel
theorem dX5_ask_39 : decode cX5_ask 39 = .ok (.iload 5, 2) := by decide +kernel
theorem dX5_ask_41 : decode cX5_ask 41 = .ok (.invokevirtual 241, 3) := by decide +kernel
theorem dX5_ask_44 : decode cX5_ask 44 = .ok (.istore 6, 2) := by decide +kernel
theorem dX5_ask_46 : decode cX5_ask 46 = .ok (.iload 6, 2) := by decide +kernel
theorem dX5_ask_48 : decode cX5_ask 48 = .ok (.iload 4, 2) := by decide +kernel
theorem dX5_ask_50 : decode cX5_ask 50 = .ok (.if_icmp .ge 10, 3) := by decide +kernel
theorem dX5_ask_53 : decode cX5_ask 53 = .ok (.iload 5, 2) := by decide +kernel
theorem dX5_ask_55 : decode cX5_ask 55 = .ok (.istore_n 3, 1) := by decide +kernel
theorem dX5_ask_56 : decode cX5_ask 56 = .ok (.iload 6, 2) := by decide +kernel
theorem dX5_ask_58 : decode cX5_ask 58 = .ok (.istore 4, 2) := by decide +kernel
theorem dX5_ask_60 : decode cX5_ask 60 = .ok (.iinc 5 1, 3) := by decide +kernel
theorem dX5_ask_63 : decode cX5_ask 63 = .ok (.goto (-38), 3) := by decide +kernel
theorem dX5_ask_66 : decode cX5_ask 66 = .ok (.iload_n 3, 1) := by decide +kernel
theorem dX5_ask_67 : decode cX5_ask 67 = .ok (.ireturn, 1) := by decide +kernel
theorem dX5_storm_0 : decode cX5_storm 0 = .ok (.iload_n 1, 1) := by decide +kernel
theorem dX5_storm_1 : decode cX5_storm 1 = .ok (.ifCond .lt 33, 3) := by decide +kernel
theorem dX5_storm_4 : decode cX5_storm 4 = .ok (.iload_n 1, 1) := by decide +kernel
theorem dX5_storm_5 : decode cX5_storm 5 = .ok (.bipush 16, 2) := by decide +kernel
theorem dX5_storm_7 : decode cX5_storm 7 = .ok (.if_icmp .gt 27, 3) := by decide +kernel
theorem dX5_storm_10 : decode cX5_storm 10 = .ok (.aload_n 0, 1) := by decide +kernel
theorem dX5_storm_11 : decode cX5_storm 11 = .ok (.iload_n 2, 1) := by decide +kernel
theorem dX5_storm_12 : decode cX5_storm 12 = .ok (.invokevirtual 93, 3) := by decide +kernel
theorem dX5_storm_15 : decode cX5_storm 15 = .ok (.ifCond .eq 19, 3) := by decide +kernel
theorem dX5_storm_18 : decode cX5_storm 18 = .ok (.iload_n 3, 1) := by decide +kernel
theorem dX5_storm_19 : decode cX5_storm 19 = .ok (.invokestatic 140, 3) := by decide +kernel
theorem dX5_storm_22 : decode cX5_storm 22 = .ok (.ifCond .eq 12, 3) := by decide +kernel
theorem dX5_storm_25 : decode cX5_storm 25 = .ok (.iload 4, 2) := by decide +kernel
theorem dX5_storm_27 : decode cX5_storm 27 = .ok (.iconst 2, 1) := by decide +kernel
theorem dX5_storm_28 : decode cX5_storm 28 = .ok (.invokestatic 187, 3) := by decide +kernel
theorem dX5_storm_31 : decode cX5_storm 31 = .ok (.ifCond .ne 7, 3) := by decide +kernel
theorem dX5_storm_34 : decode cX5_storm 34 = .ok (.ldc2_w 246, 3) := by decide +kernel
theorem dX5_storm_37 : decode cX5_storm 37 = .ok (.lreturn, 1) := by decide +kernel
theorem dX5_storm_38 : decode cX5_storm 38 = .ok (.aload_n 0, 1) := by decide +kernel
theorem dX5_storm_39 : decode cX5_storm 39 = .ok (.invokevirtual 207, 3) := by decide +kernel
theorem dX5_storm_42 : decode cX5_storm 42 = .ok (.lconst 0, 1) := by decide +kernel
theorem dX5_storm_43 : decode cX5_storm 43 = .ok (.lstore 5, 2) := by decide +kernel
theorem dX5_storm_45 : decode cX5_storm 45 = .ok (.lconst 1, 1) := by decide +kernel
theorem dX5_storm_46 : decode cX5_storm 46 = .ok (.iconst 4, 1) := by decide +kernel
theorem dX5_storm_47 : decode cX5_storm 47 = .ok (.aload_n 0, 1) := by decide +kernel
theorem dX5_storm_48 : decode cX5_storm 48 = .ok (.getfield 29, 3) := by decide +kernel
theorem dX5_storm_51 : decode cX5_storm 51 = .ok (.getfield 248, 3) := by decide +kernel
theorem dX5_storm_54 : decode cX5_storm 54 = .ok (.imul, 1) := by decide +kernel
theorem dX5_storm_55 : decode cX5_storm 55 = .ok (.lshl, 1) := by decide +kernel
theorem dX5_storm_56 : decode cX5_storm 56 = .ok (.lstore 7, 2) := by decide +kernel
theorem dX5_storm_58 : decode cX5_storm 58 = .ok (.iconst 0, 1) := by decide +kernel
theorem dX5_storm_59 : decode cX5_storm 59 = .ok (.istore 9, 2) := by decide +kernel
theorem dX5_storm_61 : decode cX5_storm 61 = .ok (.iload 9, 2) := by decide +kernel
theorem dX5_storm_63 : decode cX5_storm 63 = .ok (.iconst 1, 1) := by decide +kernel
theorem dX5_storm_64 : decode cX5_storm 64 = .ok (.aload_n 0, 1) := by decide +kernel
theorem dX5_storm_65 : decode cX5_storm 65 = .ok (.getfield 29, 3) := by decide +kernel
theorem dX5_storm_68 : decode cX5_storm 68 = .ok (.getfield 248, 3) := by decide +kernel
theorem dX5_storm_71 : decode cX5_storm 71 = .ok (.ishl, 1) := by decide +kernel
theorem dX5_storm_72 : decode cX5_storm 72 = .ok (.if_icmp .ge 57, 3) := by decide +kernel
theorem dX5_storm_75 : decode cX5_storm 75 = .ok (.iload 9, 2) := by decide +kernel
theorem dX5_storm_77 : decode cX5_storm 77 = .ok (.bipush 64, 2) := by decide +kernel
theorem dX5_storm_79 : decode cX5_storm 79 = .ok (.if_icmp .ge 50, 3) := by decide +kernel
theorem dX5_storm_82 : decode cX5_storm 82 = .ok (.aload_n 0, 1) := by decide +kernel
theorem dX5_storm_83 : decode cX5_storm 83 = .ok (.getfield 33, 3) := by decide +kernel
theorem dX5_storm_86 : decode cX5_storm 86 = .ok (.iload 9, 2) := by decide +kernel
theorem dX5_storm_88 : decode cX5_storm 88 = .ok (.bipush 8, 2) := by decide +kernel
theorem dX5_storm_90 : decode cX5_storm 90 = .ok (.imul, 1) := by decide +kernel
theorem dX5_storm_91 : decode cX5_storm 91 = .ok (.iload_n 2, 1) := by decide +kernel
theorem dX5_storm_92 : decode cX5_storm 92 = .ok (.iadd, 1) := by decide +kernel
theorem dX5_storm_93 : decode cX5_storm 93 = .ok (.iaload, 1) := by decide +kernel
theorem dX5_storm_94 : decode cX5_storm 94 = .ok (.istore 10, 2) := by decide +kernel
theorem dX5_storm_96 : decode cX5_storm 96 = .ok (.iload 10, 2) := by decide +kernel
theorem dX5_storm_98 : decode cX5_storm 98 = .ok (.iconst (-1), 1) := by decide +kernel
theorem dX5_storm_99 : decode cX5_storm 99 = .ok (.if_icmp .eq 24, 3) := by decide +kernel
theorem dX5_storm_102 : decode cX5_storm 102 = .ok (.iload 10, 2) := by decide +kernel
theorem dX5_storm_104 : decode cX5_storm 104 = .ok (.iload_n 3, 1) := by decide +kernel
theorem dX5_storm_105 : decode cX5_storm 105 = .ok (.if_icmp .gt 18, 3) := by decide +kernel
theorem dX5_storm_108 : decode cX5_storm 108 = .ok (.lload 5, 2) := by decide +kernel
theorem dX5_storm_110 : decode cX5_storm 110 = .ok (.aload_n 0, 1) := by decide +kernel
theorem dX5_storm_111 : decode cX5_storm 111 = .ok (.iload_n 1, 1) := by decide +kernel
theorem dX5_storm_112 : decode cX5_storm 112 = .ok (.iload 9, 2) := by decide +kernel
theorem dX5_storm_114 : decode cX5_storm 114 = .ok (.invokestatic 176, 3) := by decide +kernel
theorem dX5_storm_117 : decode cX5_storm 117 = .ok (.invokevirtual 251, 3) := by decide +kernel
theorem dX5_storm_120 : decode cX5_storm 120 = .ok (.ladd, 1) := by decide +kernel
theorem dX5_storm_121 : decode cX5_storm 121 = .ok (.lstore 5, 2) := by decide +kernel
theorem dX5_storm_123 : decode cX5_storm 123 = .ok (.iinc 9 1, 3) := by decide +kernel
theorem dX5_storm_126 : decode cX5_storm 126 = .ok (.goto (-65), 3) := by decide +kernel
theorem dX5_storm_129 : decode cX5_storm 129 = .ok (.iconst 0, 1) := by decide +kernel
theorem dX5_storm_130 : decode cX5_storm 130 = .ok (.istore 9, 2) := by decide +kernel
theorem dX5_storm_132 : decode cX5_storm 132 = .ok (.iload 9, 2) := by decide +kernel
theorem dX5_storm_134 : decode cX5_storm 134 = .ok (.bipush 24, 2) := by decide +kernel
theorem dX5_storm_136 : decode cX5_storm 136 = .ok (.if_icmp .ge 43, 3) := by decide +kernel
theorem dX5_storm_139 : decode cX5_storm 139 = .ok (.lload 5, 2) := by decide +kernel
theorem dX5_storm_141 : decode cX5_storm 141 = .ok (.ldc2_w 255, 3) := by decide +kernel
theorem dX5_storm_144 : decode cX5_storm 144 = .ok (.lrem, 1) := by decide +kernel
theorem dX5_storm_145 : decode cX5_storm 145 = .ok (.lconst 0, 1) := by decide +kernel
theorem dX5_storm_146 : decode cX5_storm 146 = .ok (.lcmp, 1) := by decide +kernel
theorem dX5_storm_147 : decode cX5_storm 147 = .ok (.ifCond .ne 32, 3) := by decide +kernel
theorem dX5_storm_150 : decode cX5_storm 150 = .ok (.lload 7, 2) := by decide +kernel
theorem dX5_storm_152 : decode cX5_storm 152 = .ok (.lconst 1, 1) := by decide +kernel
theorem dX5_storm_153 : decode cX5_storm 153 = .ok (.lcmp, 1) := by decide +kernel
theorem dX5_storm_154 : decode cX5_storm 154 = .ok (.ifCond .le 25, 3) := by decide +kernel
theorem dX5_storm_157 : decode cX5_storm 157 = .ok (.lload 5, 2) := by decide +kernel
theorem dX5_storm_159 : decode cX5_storm 159 = .ok (.ldc2_w 255, 3) := by decide +kernel
theorem dX5_storm_162 : decode cX5_storm 162 = .ok (.ldiv, 1) := by decide +kernel
theorem dX5_storm_163 : decode cX5_storm 163 = .ok (.lstore 5, 2) := by decide +kernel
theorem dX5_storm_165 : decode cX5_storm 165 = .ok (.lload 7, 2) := by decide +kernel
theorem dX5_storm_167 : decode cX5_storm 167 = .ok (.ldc2_w 255, 3) := by decide +kernel
theorem dX5_storm_170 : decode cX5_storm 170 = .ok (.ldiv, 1) := by decide +kernel
theorem dX5_storm_171 : decode cX5_storm 171 = .ok (.lstore 7, 2) := by decide +kernel
theorem dX5_storm_173 : decode cX5_storm 173 = .ok (.iinc 9 1, 3) := by decide +kernel
theorem dX5_storm_176 : decode cX5_storm 176 = .ok (.goto (-44), 3) := by decide +kernel
theorem dX5_storm_179 : decode cX5_storm 179 = .ok (.iload 4, 2) := by decide +kernel
theorem dX5_storm_181 : decode cX5_storm 181 = .ok (.ifCond .ne 8, 3) := by decide +kernel
theorem dX5_storm_184 : decode cX5_storm 184 = .ok (.lload 5, 2) := by decide +kernel
theorem dX5_storm_186 : decode cX5_storm 186 = .ok (.goto 5, 3) := by decide +kernel
theorem dX5_storm_189 : decode cX5_storm 189 = .ok (.lload 7, 2) := by decide +kernel
theorem dX5_storm_191 : decode cX5_storm 191 = .ok (.lreturn, 1) := by decide +kernel
theorem dX5_port_0 : decode cX5_port 0 = .ok (.iload_n 2, 1) := by decide +kernel
theorem dX5_port_1 : decode cX5_port 1 = .ok (.iconst (-1), 1) := by decide +kernel
theorem dX5_port_2 : decode cX5_port 2 = .ok (.if_icmp .eq 14, 3) := by decide +kernel
theorem dX5_port_5 : decode cX5_port 5 = .ok (.aload_n 0, 1) := by decide +kernel
theorem dX5_port_6 : decode cX5_port 6 = .ok (.iload_n 2, 1) := by decide +kernel
theorem dX5_port_7 : decode cX5_port 7 = .ok (.invokevirtual 110, 3) := by decide +kernel
theorem dX5_port_10 : decode cX5_port 10 = .ok (.ifCond .ne 6, 3) := by decide +kernel
theorem dX5_port_13 : decode cX5_port 13 = .ok (.bipush (-2), 2) := by decide +kernel
theorem dX5_port_15 : decode cX5_port 15 = .ok (.ireturn, 1) := by decide +kernel
theorem dX5_port_16 : decode cX5_port 16 = .ok (.aload_n 0, 1) := by decide +kernel
theorem dX5_port_17 : decode cX5_port 17 = .ok (.getfield 30, 3) := by decide +kernel
theorem dX5_port_20 : decode cX5_port 20 = .ok (.aload_n 0, 1) := by decide +kernel
theorem dX5_port_21 : decode cX5_port 21 = .ok (.getfield 29, 3) := by decide +kernel
theorem dX5_port_24 : decode cX5_port 24 = .ok (.invokevirtual 191, 3) := by decide +kernel
theorem dX5_port_27 : decode cX5_port 27 = .ok (.iload_n 1, 1) := by decide +kernel
theorem dX5_port_28 : decode cX5_port 28 = .ok (.istore_n 3, 1) := by decide +kernel
theorem dX5_port_29 : decode cX5_port 29 = .ok (.iconst 0, 1) := by decide +kernel
theorem dX5_port_30 : decode cX5_port 30 = .ok (.istore 4, 2) := by decide +kernel
theorem dX5_port_32 : decode cX5_port 32 = .ok (.iload 4, 2) := by decide +kernel
theorem dX5_port_34 : decode cX5_port 34 = .ok (.aload_n 0, 1) := by decide +kernel
theorem dX5_port_35 : decode cX5_port 35 = .ok (.getfield 29, 3) := by decide +kernel
theorem dX5_port_38 : decode cX5_port 38 = .ok (.getfield 257, 3) := by decide +kernel
theorem dX5_port_41 : decode cX5_port 41 = .ok (.if_icmp .ge 51, 3) := by decide +kernel
theorem dX5_port_44 : decode cX5_port 44 = .ok (.aload_n 0, 1) := by decide +kernel
theorem dX5_port_45 : decode cX5_port 45 = .ok (.getfield 29, 3) := by decide +kernel
theorem dX5_port_48 : decode cX5_port 48 = .ok (.getfield 181, 3) := by decide +kernel
theorem dX5_port_51 : decode cX5_port 51 = .ok (.ifCond .le 41, 3) := by decide +kernel
theorem dX5_port_54 : decode cX5_port 54 = .ok (.ldc_w 260, 3) := by decide +kernel
theorem dX5_port_57 : decode cX5_port 57 = .ok (.iload_n 3, 1) := by decide +kernel
theorem dX5_port_58 : decode cX5_port 58 = .ok (.imul, 1) := by decide +kernel
theorem dX5_port_59 : decode cX5_port 59 = .ok (.sipush 12345, 3) := by decide +kernel
theorem dX5_port_62 : decode cX5_port 62 = .ok (.iadd, 1) := by decide +kernel
theorem dX5_port_63 : decode cX5_port 63 = .ok (.istore_n 3, 1) := by decide +kernel
theorem dX5_port_64 : decode cX5_port 64 = .ok (.aload_n 0, 1) := by decide +kernel
theorem dX5_port_65 : decode cX5_port 65 = .ok (.getfield 30, 3) := by decide +kernel
theorem dX5_port_68 : decode cX5_port 68 = .ok (.getfield 107, 3) := by decide +kernel
theorem dX5_port_71 : decode cX5_port 71 = .ok (.iload 4, 2) := by decide +kernel
theorem dX5_port_73 : decode cX5_port 73 = .ok (.iload_n 3, 1) := by decide +kernel
theorem dX5_port_74 : decode cX5_port 74 = .ok (.bipush 16, 2) := by decide +kernel
theorem dX5_port_76 : decode cX5_port 76 = .ok (.iushr, 1) := by decide +kernel
theorem dX5_port_77 : decode cX5_port 77 = .ok (.aload_n 0, 1) := by decide +kernel
theorem dX5_port_78 : decode cX5_port 78 = .ok (.getfield 29, 3) := by decide +kernel
theorem dX5_port_81 : decode cX5_port 81 = .ok (.getfield 181, 3) := by decide +kernel
theorem dX5_port_84 : decode cX5_port 84 = .ok (.irem, 1) := by decide +kernel
theorem dX5_port_85 : decode cX5_port 85 = .ok (.iastore, 1) := by decide +kernel
theorem dX5_port_86 : decode cX5_port 86 = .ok (.iinc 4 1, 3) := by decide +kernel
theorem dX5_port_89 : decode cX5_port 89 = .ok (.goto (-57), 3) := by decide +kernel
theorem dX5_port_92 : decode cX5_port 92 = .ok (.aload_n 0, 1) := by decide +kernel
theorem dX5_port_93 : decode cX5_port 93 = .ok (.getfield 22, 3) := by decide +kernel
theorem dX5_port_96 : decode cX5_port 96 = .ok (.invokevirtual 195, 3) := by decide +kernel
theorem dX5_port_99 : decode cX5_port 99 = .ok (.iload_n 2, 1) := by decide +kernel
theorem dX5_port_100 : decode cX5_port 100 = .ok (.iconst (-1), 1) := by decide +kernel
theorem dX5_port_101 : decode cX5_port 101 = .ok (.if_icmp .ne 13, 3) := by decide +kernel
theorem dX5_port_104 : decode cX5_port 104 = .ok (.aload_n 0, 1) := by decide +kernel
theorem dX5_port_105 : decode cX5_port 105 = .ok (.getfield 22, 3) := by decide +kernel
theorem dX5_port_108 : decode cX5_port 108 = .ok (.invokevirtual 261, 3) := by decide +kernel
theorem dX5_port_111 : decode cX5_port 111 = .ok (.goto 12, 3) := by decide +kernel
theorem dX5_port_114 : decode cX5_port 114 = .ok (.aload_n 0, 1) := by decide +kernel
theorem dX5_port_115 : decode cX5_port 115 = .ok (.getfield 22, 3) := by decide +kernel
theorem dX5_port_118 : decode cX5_port 118 = .ok (.getfield 198, 3) := by decide +kernel
theorem dX5_port_121 : decode cX5_port 121 = .ok (.iload_n 2, 1) := by decide +kernel
theorem dX5_port_122 : decode cX5_port 122 = .ok (.iaload, 1) := by decide +kernel
theorem dX5_port_123 : decode cX5_port 123 = .ok (.ireturn, 1) := by decide +kernel
theorem dX5_sheet_0 : decode cX5_sheet 0 = .ok (.iload_n 1, 1) := by decide +kernel
theorem dX5_sheet_1 : decode cX5_sheet 1 = .ok (.iconst 4, 1) := by decide +kernel
theorem dX5_sheet_2 : decode cX5_sheet 2 = .ok (.invokestatic 187, 3) := by decide +kernel
theorem dX5_sheet_5 : decode cX5_sheet 5 = .ok (.ifCond .eq 17, 3) := by decide +kernel
theorem dX5_sheet_8 : decode cX5_sheet 8 = .ok (.iload_n 2, 1) := by decide +kernel
theorem dX5_sheet_9 : decode cX5_sheet 9 = .ok (.iconst 3, 1) := by decide +kernel
theorem dX5_sheet_10 : decode cX5_sheet 10 = .ok (.invokestatic 187, 3) := by decide +kernel
theorem dX5_sheet_13 : decode cX5_sheet 13 = .ok (.ifCond .eq 9, 3) := by decide +kernel
theorem dX5_sheet_16 : decode cX5_sheet 16 = .ok (.iload_n 3, 1) := by decide +kernel
theorem dX5_sheet_17 : decode cX5_sheet 17 = .ok (.bipush 60, 2) := by decide +kernel
theorem dX5_sheet_19 : decode cX5_sheet 19 = .ok (.if_icmp .le 6, 3) := by decide +kernel
theorem dX5_sheet_22 : decode cX5_sheet 22 = .ok (.bipush (-2), 2) := by decide +kernel
theorem dX5_sheet_24 : decode cX5_sheet 24 = .ok (.ireturn, 1) := by decide +kernel
theorem dX5_sheet_25 : decode cX5_sheet 25 = .ok (.iload_n 3, 1) := by decide +kernel
theorem dX5_sheet_26 : decode cX5_sheet 26 = .ok (.ifCond .ge 9, 3) := by decide +kernel
theorem dX5_sheet_29 : decode cX5_sheet 29 = .ok (.aload_n 0, 1) := by decide +kernel
theorem dX5_sheet_30 : decode cX5_sheet 30 = .ok (.iconst 5, 1) := by decide +kernel
theorem dX5_sheet_31 : decode cX5_sheet 31 = .ok (.invokevirtual 227, 3) := by decide +kernel
theorem dX5_sheet_34 : decode cX5_sheet 34 = .ok (.ireturn, 1) := by decide +kernel
theorem dX5_sheet_35 : decode cX5_sheet 35 = .ok (.aload_n 0, 1) := by decide +kernel
theorem dX5_sheet_36 : decode cX5_sheet 36 = .ok (.getfield 49, 3) := by decide +kernel
theorem dX5_sheet_39 : decode cX5_sheet 39 = .ok (.iload_n 1, 1) := by decide +kernel
theorem dX5_sheet_40 : decode cX5_sheet 40 = .ok (.aaload, 1) := by decide +kernel
theorem dX5_sheet_41 : decode cX5_sheet 41 = .ok (.iload_n 2, 1) := by decide +kernel
theorem dX5_sheet_42 : decode cX5_sheet 42 = .ok (.iload_n 3, 1) := by decide +kernel
theorem dX5_sheet_43 : decode cX5_sheet 43 = .ok (.invokevirtual 264, 3) := by decide +kernel
theorem dX5_sheet_46 : decode cX5_sheet 46 = .ok (.iload_n 3, 1) := by decide +kernel
theorem dX5_sheet_47 : decode cX5_sheet 47 = .ok (.ireturn, 1) := by decide +kernel
theorem dX5_lose_0 : decode cX5_lose 0 = .ok (.iload_n 1, 1) := by decide +kernel
theorem dX5_lose_1 : decode cX5_lose 1 = .ok (.iconst 4, 1) := by decide +kernel
theorem dX5_lose_2 : decode cX5_lose 2 = .ok (.invokestatic 187, 3) := by decide +kernel
theorem dX5_lose_5 : decode cX5_lose 5 = .ok (.ifCond .ne 6, 3) := by decide +kernel
theorem dX5_lose_8 : decode cX5_lose 8 = .ok (.bipush (-2), 2) := by decide +kernel
theorem dX5_lose_10 : decode cX5_lose 10 = .ok (.ireturn, 1) := by decide +kernel
theorem dX5_lose_11 : decode cX5_lose 11 = .ok (.aload_n 0, 1) := by decide +kernel
theorem dX5_lose_12 : decode cX5_lose 12 = .ok (.getfield 49, 3) := by decide +kernel
theorem dX5_lose_15 : decode cX5_lose 15 = .ok (.iload_n 1, 1) := by decide +kernel
theorem dX5_lose_16 : decode cX5_lose 16 = .ok (.aaload, 1) := by decide +kernel
theorem dX5_lose_17 : decode cX5_lose 17 = .ok (.getfield 224, 3) := by decide +kernel
theorem dX5_lose_20 : decode cX5_lose 20 = .ok (.iconst (-1), 1) := by decide +kernel
theorem dX5_lose_21 : decode cX5_lose 21 = .ok (.if_icmp .ne 9, 3) := by decide +kernel
theorem dX5_lose_24 : decode cX5_lose 24 = .ok (.aload_n 0, 1) := by decide +kernel
theorem dX5_lose_25 : decode cX5_lose 25 = .ok (.iconst 1, 1) := by decide +kernel
theorem dX5_lose_26 : decode cX5_lose 26 = .ok (.invokevirtual 227, 3) := by decide +kernel
theorem dX5_lose_29 : decode cX5_lose 29 = .ok (.ireturn, 1) := by decide +kernel
theorem dX5_lose_30 : decode cX5_lose 30 = .ok (.aload_n 0, 1) := by decide +kernel
theorem dX5_lose_31 : decode cX5_lose 31 = .ok (.getfield 49, 3) := by decide +kernel
theorem dX5_lose_34 : decode cX5_lose 34 = .ok (.iload_n 1, 1) := by decide +kernel
theorem dX5_lose_35 : decode cX5_lose 35 = .ok (.aaload, 1) := by decide +kernel
theorem dX5_lose_36 : decode cX5_lose 36 = .ok (.iconst (-1), 1) := by decide +kernel
theorem dX5_lose_37 : decode cX5_lose 37 = .ok (.putfield 224, 3) := by decide +kernel
theorem dX5_lose_40 : decode cX5_lose 40 = .ok (.aload_n 0, 1) := by decide +kernel
theorem dX5_lose_41 : decode cX5_lose 41 = .ok (.getfield 49, 3) := by decide +kernel
theorem dX5_lose_44 : decode cX5_lose 44 = .ok (.iload_n 1, 1) := by decide +kernel
theorem dX5_lose_45 : decode cX5_lose 45 = .ok (.aaload, 1) := by decide +kernel
theorem dX5_lose_46 : decode cX5_lose 46 = .ok (.getfield 230, 3) := by decide +kernel
theorem dX5_lose_49 : decode cX5_lose 49 = .ok (.ireturn, 1) := by decide +kernel
theorem dX5_put_0 : decode cX5_put 0 = .ok (.aload_n 0, 1) := by decide +kernel
theorem dX5_put_1 : decode cX5_put 1 = .ok (.iload_n 1, 1) := by decide +kernel
theorem dX5_put_2 : decode cX5_put 2 = .ok (.iload_n 2, 1) := by decide +kernel
theorem dX5_put_3 : decode cX5_put 3 = .ok (.iload_n 3, 1) := by decide +kernel
theorem dX5_put_4 : decode cX5_put 4 = .ok (.invokevirtual 268, 3) := by decide +kernel
theorem dX5_put_7 : decode cX5_put 7 = .ok (.istore 5, 2) := by decide +kernel
theorem dX5_put_9 : decode cX5_put 9 = .ok (.iload 5, 2) := by decide +kernel
theorem dX5_put_11 : decode cX5_put 11 = .ok (.ifCond .eq 6, 3) := by decide +kernel
theorem dX5_put_14 : decode cX5_put 14 = .ok (.iload 5, 2) := by decide +kernel
theorem dX5_put_16 : decode cX5_put 16 = .ok (.ireturn, 1) := by decide +kernel
theorem dX5_put_17 : decode cX5_put 17 = .ok (.aload_n 0, 1) := by decide +kernel
theorem dX5_put_18 : decode cX5_put 18 = .ok (.getfield 49, 3) := by decide +kernel
theorem dX5_put_21 : decode cX5_put 21 = .ok (.iload_n 1, 1) := by decide +kernel
theorem dX5_put_22 : decode cX5_put 22 = .ok (.aaload, 1) := by decide +kernel
theorem dX5_put_23 : decode cX5_put 23 = .ok (.iload_n 3, 1) := by decide +kernel
theorem dX5_put_24 : decode cX5_put 24 = .ok (.iload 4, 2) := by decide +kernel
theorem dX5_put_26 : decode cX5_put 26 = .ok (.invokevirtual 271, 3) := by decide +kernel
theorem dX5_put_29 : decode cX5_put 29 = .ok (.iconst 1, 1) := by decide +kernel
theorem dX5_put_30 : decode cX5_put 30 = .ok (.ireturn, 1) := by decide +kernel
theorem dX5_get_0 : decode cX5_get 0 = .ok (.aload_n 0, 1) := by decide +kernel
theorem dX5_get_1 : decode cX5_get 1 = .ok (.iload_n 1, 1) := by decide +kernel
theorem dX5_get_2 : decode cX5_get 2 = .ok (.iload_n 2, 1) := by decide +kernel
theorem dX5_get_3 : decode cX5_get 3 = .ok (.iload_n 3, 1) := by decide +kernel
theorem dX5_get_4 : decode cX5_get 4 = .ok (.invokevirtual 268, 3) := by decide +kernel
theorem dX5_get_7 : decode cX5_get 7 = .ok (.ifCond .ne 17, 3) := by decide +kernel
theorem dX5_get_10 : decode cX5_get 10 = .ok (.aload_n 0, 1) := by decide +kernel
theorem dX5_get_11 : decode cX5_get 11 = .ok (.getfield 49, 3) := by decide +kernel
theorem dX5_get_14 : decode cX5_get 14 = .ok (.iload_n 1, 1) := by decide +kernel
theorem dX5_get_15 : decode cX5_get 15 = .ok (.aaload, 1) := by decide +kernel
theorem dX5_get_16 : decode cX5_get 16 = .ok (.getfield 231, 3) := by decide +kernel
theorem dX5_get_19 : decode cX5_get 19 = .ok (.iload_n 3, 1) := by decide +kernel
theorem dX5_get_20 : decode cX5_get 20 = .ok (.iaload, 1) := by decide +kernel
theorem dX5_get_21 : decode cX5_get 21 = .ok (.goto 6, 3) := by decide +kernel
theorem dX5_get_24 : decode cX5_get 24 = .ok (.ldc_w 274, 3) := by decide +kernel
theorem dX5_get_27 : decode cX5_get 27 = .ok (.ireturn, 1) := by decide +kernel
theorem dX5_copy_0 : decode cX5_copy 0 = .ok (.iload_n 1, 1) := by decide +kernel
theorem dX5_copy_1 : decode cX5_copy 1 = .ok (.iconst 4, 1) := by decide +kernel
theorem dX5_copy_2 : decode cX5_copy 2 = .ok (.invokestatic 187, 3) := by decide +kernel
theorem dX5_copy_5 : decode cX5_copy 5 = .ok (.ifCond .eq 11, 3) := by decide +kernel
theorem dX5_copy_8 : decode cX5_copy 8 = .ok (.iload_n 3, 1) := by decide +kernel
theorem dX5_copy_9 : decode cX5_copy 9 = .ok (.iconst 4, 1) := by decide +kernel
theorem dX5_copy_10 : decode cX5_copy 10 = .ok (.invokestatic 187, 3) := by decide +kernel
theorem dX5_copy_13 : decode cX5_copy 13 = .ok (.ifCond .ne 6, 3) := by decide +kernel
theorem dX5_copy_16 : decode cX5_copy 16 = .ok (.bipush (-2), 2) := by decide +kernel
theorem dX5_copy_18 : decode cX5_copy 18 = .ok (.ireturn, 1) := by decide +kernel
theorem dX5_copy_19 : decode cX5_copy 19 = .ok (.aload_n 0, 1) := by decide +kernel
theorem dX5_copy_20 : decode cX5_copy 20 = .ok (.getfield 49, 3) := by decide +kernel
theorem dX5_copy_23 : decode cX5_copy 23 = .ok (.iload_n 1, 1) := by decide +kernel
theorem dX5_copy_24 : decode cX5_copy 24 = .ok (.aaload, 1) := by decide +kernel
theorem dX5_copy_25 : decode cX5_copy 25 = .ok (.astore 6, 2) := by decide +kernel
theorem dX5_copy_27 : decode cX5_copy 27 = .ok (.aload_n 0, 1) := by decide +kernel
theorem dX5_copy_28 : decode cX5_copy 28 = .ok (.getfield 49, 3) := by decide +kernel
theorem dX5_copy_31 : decode cX5_copy 31 = .ok (.iload_n 3, 1) := by decide +kernel
theorem dX5_copy_32 : decode cX5_copy 32 = .ok (.aaload, 1) := by decide +kernel
theorem dX5_copy_33 : decode cX5_copy 33 = .ok (.astore 7, 2) := by decide +kernel
theorem dX5_copy_35 : decode cX5_copy 35 = .ok (.aload 6, 2) := by decide +kernel
theorem dX5_copy_37 : decode cX5_copy 37 = .ok (.getfield 224, 3) := by decide +kernel
theorem dX5_copy_40 : decode cX5_copy 40 = .ok (.iconst (-1), 1) := by decide +kernel
theorem dX5_copy_41 : decode cX5_copy 41 = .ok (.if_icmp .eq 12, 3) := by decide +kernel
theorem dX5_copy_44 : decode cX5_copy 44 = .ok (.aload 7, 2) := by decide +kernel
theorem dX5_copy_46 : decode cX5_copy 46 = .ok (.getfield 224, 3) := by decide +kernel
theorem dX5_copy_49 : decode cX5_copy 49 = .ok (.iconst (-1), 1) := by decide +kernel
theorem dX5_copy_50 : decode cX5_copy 50 = .ok (.if_icmp .ne 9, 3) := by decide +kernel
theorem dX5_copy_53 : decode cX5_copy 53 = .ok (.aload_n 0, 1) := by decide +kernel
theorem dX5_copy_54 : decode cX5_copy 54 = .ok (.iconst 1, 1) := by decide +kernel
theorem dX5_copy_55 : decode cX5_copy 55 = .ok (.invokevirtual 227, 3) := by decide +kernel
theorem dX5_copy_58 : decode cX5_copy 58 = .ok (.ireturn, 1) := by decide +kernel
theorem dX5_copy_59 : decode cX5_copy 59 = .ok (.aload 6, 2) := by decide +kernel
theorem dX5_copy_61 : decode cX5_copy 61 = .ok (.getfield 224, 3) := by decide +kernel
theorem dX5_copy_64 : decode cX5_copy 64 = .ok (.aload 7, 2) := by decide +kernel
theorem dX5_copy_66 : decode cX5_copy 66 = .ok (.getfield 224, 3) := by decide +kernel
theorem dX5_copy_69 : decode cX5_copy 69 = .ok (.if_icmp .eq 9, 3) := by decide +kernel
theorem dX5_copy_72 : decode cX5_copy 72 = .ok (.aload_n 0, 1) := by decide +kernel
theorem dX5_copy_73 : decode cX5_copy 73 = .ok (.iconst 4, 1) := by decide +kernel
theorem dX5_copy_74 : decode cX5_copy 74 = .ok (.invokevirtual 227, 3) := by decide +kernel
theorem dX5_copy_77 : decode cX5_copy 77 = .ok (.ireturn, 1) := by decide +kernel
theorem dX5_copy_78 : decode cX5_copy 78 = .ok (.aload 6, 2) := by decide +kernel
theorem dX5_copy_80 : decode cX5_copy 80 = .ok (.iload_n 2, 1) := by decide +kernel
theorem dX5_copy_81 : decode cX5_copy 81 = .ok (.iload 5, 2) := by decide +kernel
theorem dX5_copy_83 : decode cX5_copy 83 = .ok (.invokevirtual 275, 3) := by decide +kernel
theorem dX5_copy_86 : decode cX5_copy 86 = .ok (.ifCond .eq 15, 3) := by decide +kernel
theorem dX5_copy_89 : decode cX5_copy 89 = .ok (.aload 7, 2) := by decide +kernel
theorem dX5_copy_91 : decode cX5_copy 91 = .ok (.iload 4, 2) := by decide +kernel
theorem dX5_copy_93 : decode cX5_copy 93 = .ok (.iload 5, 2) := by decide +kernel
theorem dX5_copy_95 : decode cX5_copy 95 = .ok (.invokevirtual 275, 3) := by decide +kernel
theorem dX5_copy_98 : decode cX5_copy 98 = .ok (.ifCond .ne 9, 3) := by decide +kernel
theorem dX5_copy_101 : decode cX5_copy 101 = .ok (.aload_n 0, 1) := by decide +kernel
theorem dX5_copy_102 : decode cX5_copy 102 = .ok (.iconst 2, 1) := by decide +kernel
theorem dX5_copy_103 : decode cX5_copy 103 = .ok (.invokevirtual 227, 3) := by decide +kernel
theorem dX5_copy_106 : decode cX5_copy 106 = .ok (.ireturn, 1) := by decide +kernel
theorem dX5_copy_107 : decode cX5_copy 107 = .ok (.aload 6, 2) := by decide +kernel
theorem dX5_copy_109 : decode cX5_copy 109 = .ok (.getfield 231, 3) := by decide +kernel
theorem dX5_copy_112 : decode cX5_copy 112 = .ok (.iload_n 2, 1) := by decide +kernel
theorem dX5_copy_113 : decode cX5_copy 113 = .ok (.aload 7, 2) := by decide +kernel
theorem dX5_copy_115 : decode cX5_copy 115 = .ok (.getfield 231, 3) := by decide +kernel
theorem dX5_copy_118 : decode cX5_copy 118 = .ok (.iload 4, 2) := by decide +kernel
theorem dX5_copy_120 : decode cX5_copy 120 = .ok (.iload 5, 2) := by decide +kernel
theorem dX5_copy_122 : decode cX5_copy 122 = .ok (.invokestatic 278, 3) := by decide +kernel
theorem dX5_copy_125 : decode cX5_copy 125 = .ok (.iconst 1, 1) := by decide +kernel
theorem dX5_copy_126 : decode cX5_copy 126 = .ok (.ireturn, 1) := by decide +kernel
theorem dX5_write_0 : decode cX5_write 0 = .ok (.iload_n 1, 1) := by decide +kernel
theorem dX5_write_1 : decode cX5_write 1 = .ok (.invokestatic 140, 3) := by decide +kernel
theorem dX5_write_4 : decode cX5_write 4 = .ok (.ifCond .eq 11, 3) := by decide +kernel
theorem dX5_write_7 : decode cX5_write 7 = .ok (.iload_n 2, 1) := by decide +kernel
theorem dX5_write_8 : decode cX5_write 8 = .ok (.iconst 4, 1) := by decide +kernel
theorem dX5_write_9 : decode cX5_write 9 = .ok (.invokestatic 187, 3) := by decide +kernel
theorem dX5_write_12 : decode cX5_write 12 = .ok (.ifCond .ne 6, 3) := by decide +kernel
theorem dX5_write_15 : decode cX5_write 15 = .ok (.bipush (-2), 2) := by decide +kernel
theorem dX5_write_17 : decode cX5_write 17 = .ok (.ireturn, 1) := by decide +kernel
theorem dX5_write_18 : decode cX5_write 18 = .ok (.aload_n 0, 1) := by decide +kernel
theorem dX5_write_19 : decode cX5_write 19 = .ok (.getfield 49, 3) := by decide +kernel
theorem dX5_write_22 : decode cX5_write 22 = .ok (.iload_n 2, 1) := by decide +kernel
theorem dX5_write_23 : decode cX5_write 23 = .ok (.aaload, 1) := by decide +kernel
theorem dX5_write_24 : decode cX5_write 24 = .ok (.astore_n 3, 1) := by decide +kernel
theorem dX5_write_25 : decode cX5_write 25 = .ok (.aload_n 3, 1) := by decide +kernel
theorem dX5_write_26 : decode cX5_write 26 = .ok (.getfield 224, 3) := by decide +kernel
theorem dX5_write_29 : decode cX5_write 29 = .ok (.iconst (-1), 1) := by decide +kernel
theorem dX5_write_30 : decode cX5_write 30 = .ok (.if_icmp .ne 9, 3) := by decide +kernel
theorem dX5_write_33 : decode cX5_write 33 = .ok (.aload_n 0, 1) := by decide +kernel
theorem dX5_write_34 : decode cX5_write 34 = .ok (.iconst 1, 1) := by decide +kernel
theorem dX5_write_35 : decode cX5_write 35 = .ok (.invokevirtual 227, 3) := by decide +kernel
theorem dX5_write_38 : decode cX5_write 38 = .ok (.ireturn, 1) := by decide +kernel
theorem dX5_write_39 : decode cX5_write 39 = .ok (.aload_n 3, 1) := by decide +kernel
theorem dX5_write_40 : decode cX5_write 40 = .ok (.getfield 230, 3) := by decide +kernel
theorem dX5_write_43 : decode cX5_write 43 = .ok (.aload_n 0, 1) := by decide +kernel
theorem dX5_write_44 : decode cX5_write 44 = .ok (.getfield 29, 3) := by decide +kernel
theorem dX5_write_47 : decode cX5_write 47 = .ok (.getfield 257, 3) := by decide +kernel
theorem dX5_write_50 : decode cX5_write 50 = .ok (.invokestatic 284, 3) := by decide +kernel
theorem dX5_write_53 : decode cX5_write 53 = .ok (.istore 4, 2) := by decide +kernel
theorem dX5_write_55 : decode cX5_write 55 = .ok (.iconst 0, 1) := by decide +kernel
theorem dX5_write_56 : decode cX5_write 56 = .ok (.istore 5, 2) := by decide +kernel
theorem dX5_write_58 : decode cX5_write 58 = .ok (.iload 5, 2) := by decide +kernel
theorem dX5_write_60 : decode cX5_write 60 = .ok (.iload 4, 2) := by decide +kernel
theorem dX5_write_62 : decode cX5_write 62 = .ok (.if_icmp .ge 30, 3) := by decide +kernel
theorem dX5_write_65 : decode cX5_write 65 = .ok (.aload_n 3, 1) := by decide +kernel
theorem dX5_write_66 : decode cX5_write 66 = .ok (.iload 5, 2) := by decide +kernel
theorem dX5_write_68 : decode cX5_write 68 = .ok (.aload_n 0, 1) := by decide +kernel
theorem dX5_write_69 : decode cX5_write 69 = .ok (.invokevirtual 143, 3) := by decide +kernel
theorem dX5_write_72 : decode cX5_write 72 = .ok (.getfield 147, 3) := by decide +kernel
theorem dX5_write_75 : decode cX5_write 75 = .ok (.iload_n 1, 1) := by decide +kernel
theorem dX5_write_76 : decode cX5_write 76 = .ok (.bipush 8, 2) := by decide +kernel
theorem dX5_write_78 : decode cX5_write 78 = .ok (.imul, 1) := by decide +kernel
theorem dX5_write_79 : decode cX5_write 79 = .ok (.iload 5, 2) := by decide +kernel
theorem dX5_write_81 : decode cX5_write 81 = .ok (.iadd, 1) := by decide +kernel
theorem dX5_write_82 : decode cX5_write 82 = .ok (.iaload, 1) := by decide +kernel
theorem dX5_write_83 : decode cX5_write 83 = .ok (.invokevirtual 271, 3) := by decide +kernel
theorem dX5_write_86 : decode cX5_write 86 = .ok (.iinc 5 1, 3) := by decide +kernel
theorem dX5_write_89 : decode cX5_write 89 = .ok (.goto (-31), 3) := by decide +kernel
theorem dX5_write_92 : decode cX5_write 92 = .ok (.iload 4, 2) := by decide +kernel
theorem dX5_write_94 : decode cX5_write 94 = .ok (.ireturn, 1) := by decide +kernel
theorem dX5_count_0 : decode cX5_count 0 = .ok (.iload_n 1, 1) := by decide +kernel
theorem dX5_count_1 : decode cX5_count 1 = .ok (.tableswitch 126 0 8 #[51, 59, 67, 75, 85, 95, 105, 113, 121], 51) := by decide +kernel
theorem dX5_count_52 : decode cX5_count 52 = .ok (.aload_n 0, 1) := by decide +kernel
theorem dX5_count_53 : decode cX5_count 53 = .ok (.getfield 29, 3) := by decide +kernel
theorem dX5_count_56 : decode cX5_count 56 = .ok (.getfield 257, 3) := by decide +kernel
theorem dX5_count_59 : decode cX5_count 59 = .ok (.ireturn, 1) := by decide +kernel
theorem dX5_count_60 : decode cX5_count 60 = .ok (.aload_n 0, 1) := by decide +kernel
theorem dX5_count_61 : decode cX5_count 61 = .ok (.getfield 29, 3) := by decide +kernel
theorem dX5_count_64 : decode cX5_count 64 = .ok (.getfield 181, 3) := by decide +kernel
theorem dX5_count_67 : decode cX5_count 67 = .ok (.ireturn, 1) := by decide +kernel
theorem dX5_count_68 : decode cX5_count 68 = .ok (.aload_n 0, 1) := by decide +kernel
theorem dX5_count_69 : decode cX5_count 69 = .ok (.getfield 29, 3) := by decide +kernel
theorem dX5_count_72 : decode cX5_count 72 = .ok (.getfield 248, 3) := by decide +kernel
theorem dX5_count_75 : decode cX5_count 75 = .ok (.ireturn, 1) := by decide +kernel
theorem dX5_count_76 : decode cX5_count 76 = .ok (.aload_n 0, 1) := by decide +kernel
theorem dX5_count_77 : decode cX5_count 77 = .ok (.getfield 11, 3) := by decide +kernel
theorem dX5_count_80 : decode cX5_count 80 = .ok (.iconst 0, 1) := by decide +kernel
theorem dX5_count_81 : decode cX5_count 81 = .ok (.aaload, 1) := by decide +kernel
theorem dX5_count_82 : decode cX5_count 82 = .ok (.getfield 78, 3) := by decide +kernel
theorem dX5_count_85 : decode cX5_count 85 = .ok (.ireturn, 1) := by decide +kernel
theorem dX5_count_86 : decode cX5_count 86 = .ok (.aload_n 0, 1) := by decide +kernel
theorem dX5_count_87 : decode cX5_count 87 = .ok (.getfield 11, 3) := by decide +kernel
theorem dX5_count_90 : decode cX5_count 90 = .ok (.iconst 1, 1) := by decide +kernel
theorem dX5_count_91 : decode cX5_count 91 = .ok (.aaload, 1) := by decide +kernel
theorem dX5_count_92 : decode cX5_count 92 = .ok (.getfield 78, 3) := by decide +kernel
theorem dX5_count_95 : decode cX5_count 95 = .ok (.ireturn, 1) := by decide +kernel
theorem dX5_count_96 : decode cX5_count 96 = .ok (.aload_n 0, 1) := by decide +kernel
theorem dX5_count_97 : decode cX5_count 97 = .ok (.getfield 11, 3) := by decide +kernel
theorem dX5_count_100 : decode cX5_count 100 = .ok (.iconst 2, 1) := by decide +kernel
theorem dX5_count_101 : decode cX5_count 101 = .ok (.aaload, 1) := by decide +kernel
theorem dX5_count_102 : decode cX5_count 102 = .ok (.getfield 78, 3) := by decide +kernel
theorem dX5_count_105 : decode cX5_count 105 = .ok (.ireturn, 1) := by decide +kernel
theorem dX5_count_106 : decode cX5_count 106 = .ok (.aload_n 0, 1) := by decide +kernel
theorem dX5_count_107 : decode cX5_count 107 = .ok (.invokevirtual 143, 3) := by decide +kernel
theorem dX5_count_110 : decode cX5_count 110 = .ok (.invokevirtual 261, 3) := by decide +kernel
theorem dX5_count_113 : decode cX5_count 113 = .ok (.ireturn, 1) := by decide +kernel
theorem dX5_count_114 : decode cX5_count 114 = .ok (.aload_n 0, 1) := by decide +kernel
theorem dX5_count_115 : decode cX5_count 115 = .ok (.getfield 43, 3) := by decide +kernel
theorem dX5_count_118 : decode cX5_count 118 = .ok (.getfield 223, 3) := by decide +kernel
theorem dX5_count_121 : decode cX5_count 121 = .ok (.ireturn, 1) := by decide +kernel
theorem dX5_count_122 : decode cX5_count 122 = .ok (.aload_n 0, 1) := by decide +kernel
theorem dX5_count_123 : decode cX5_count 123 = .ok (.getfield 60, 3) := by decide +kernel
theorem dX5_count_126 : decode cX5_count 126 = .ok (.ireturn, 1) := by decide +kernel
theorem dX5_count_127 : decode cX5_count 127 = .ok (.bipush (-2), 2) := by decide +kernel
theorem dX5_count_129 : decode cX5_count 129 = .ok (.ireturn, 1) := by decide +kernel
theorem dX5_digest_0 : decode cX5_digest 0 = .ok (.ldc2_w 289, 3) := by decide +kernel
theorem dX5_digest_3 : decode cX5_digest 3 = .ok (.lstore_n 1, 1) := by decide +kernel
theorem dX5_digest_4 : decode cX5_digest 4 = .ok (.iconst 0, 1) := by decide +kernel
theorem dX5_digest_5 : decode cX5_digest 5 = .ok (.istore_n 3, 1) := by decide +kernel
theorem dX5_digest_6 : decode cX5_digest 6 = .ok (.iload_n 3, 1) := by decide +kernel
theorem dX5_digest_7 : decode cX5_digest 7 = .ok (.bipush 8, 2) := by decide +kernel
theorem dX5_digest_9 : decode cX5_digest 9 = .ok (.if_icmp .ge 20, 3) := by decide +kernel
theorem dX5_digest_12 : decode cX5_digest 12 = .ok (.lload_n 1, 1) := by decide +kernel
theorem dX5_digest_13 : decode cX5_digest 13 = .ok (.aload_n 0, 1) := by decide +kernel
theorem dX5_digest_14 : decode cX5_digest 14 = .ok (.iload_n 3, 1) := by decide +kernel
theorem dX5_digest_15 : decode cX5_digest 15 = .ok (.invokevirtual 291, 3) := by decide +kernel
theorem dX5_digest_18 : decode cX5_digest 18 = .ok (.i2l, 1) := by decide +kernel
theorem dX5_digest_19 : decode cX5_digest 19 = .ok (.invokestatic 294, 3) := by decide +kernel
theorem dX5_digest_22 : decode cX5_digest 22 = .ok (.lstore_n 1, 1) := by decide +kernel
theorem dX5_digest_23 : decode cX5_digest 23 = .ok (.iinc 3 1, 3) := by decide +kernel
theorem dX5_digest_26 : decode cX5_digest 26 = .ok (.goto (-20), 3) := by decide +kernel
theorem dX5_digest_29 : decode cX5_digest 29 = .ok (.iconst 0, 1) := by decide +kernel
theorem dX5_digest_30 : decode cX5_digest 30 = .ok (.istore_n 3, 1) := by decide +kernel
theorem dX5_digest_31 : decode cX5_digest 31 = .ok (.iload_n 3, 1) := by decide +kernel
theorem dX5_digest_32 : decode cX5_digest 32 = .ok (.iconst 3, 1) := by decide +kernel
theorem dX5_digest_33 : decode cX5_digest 33 = .ok (.if_icmp .ge 20, 3) := by decide +kernel
theorem dX5_digest_36 : decode cX5_digest 36 = .ok (.lload_n 1, 1) := by decide +kernel
theorem dX5_digest_37 : decode cX5_digest 37 = .ok (.aload_n 0, 1) := by decide +kernel
theorem dX5_digest_38 : decode cX5_digest 38 = .ok (.iload_n 3, 1) := by decide +kernel
theorem dX5_digest_39 : decode cX5_digest 39 = .ok (.invokevirtual 298, 3) := by decide +kernel
theorem dX5_digest_42 : decode cX5_digest 42 = .ok (.i2l, 1) := by decide +kernel
theorem dX5_digest_43 : decode cX5_digest 43 = .ok (.invokestatic 294, 3) := by decide +kernel
theorem dX5_digest_46 : decode cX5_digest 46 = .ok (.lstore_n 1, 1) := by decide +kernel
theorem dX5_digest_47 : decode cX5_digest 47 = .ok (.iinc 3 1, 3) := by decide +kernel
theorem dX5_digest_50 : decode cX5_digest 50 = .ok (.goto (-19), 3) := by decide +kernel
theorem dX5_digest_53 : decode cX5_digest 53 = .ok (.iconst 0, 1) := by decide +kernel
theorem dX5_digest_54 : decode cX5_digest 54 = .ok (.istore_n 3, 1) := by decide +kernel
theorem dX5_digest_55 : decode cX5_digest 55 = .ok (.iload_n 3, 1) := by decide +kernel
theorem dX5_digest_56 : decode cX5_digest 56 = .ok (.aload_n 0, 1) := by decide +kernel
theorem dX5_digest_57 : decode cX5_digest 57 = .ok (.getfield 29, 3) := by decide +kernel
theorem dX5_digest_60 : decode cX5_digest 60 = .ok (.getfield 257, 3) := by decide +kernel
theorem dX5_digest_63 : decode cX5_digest 63 = .ok (.if_icmp .ge 21, 3) := by decide +kernel
theorem dX5_digest_66 : decode cX5_digest 66 = .ok (.aload_n 0, 1) := by decide +kernel
theorem dX5_digest_67 : decode cX5_digest 67 = .ok (.aload_n 0, 1) := by decide +kernel
theorem dX5_digest_68 : decode cX5_digest 68 = .ok (.lload_n 1, 1) := by decide +kernel
theorem dX5_digest_69 : decode cX5_digest 69 = .ok (.iload_n 3, 1) := by decide +kernel
theorem dX5_digest_70 : decode cX5_digest 70 = .ok (.invokevirtual 301, 3) := by decide +kernel
theorem dX5_digest_73 : decode cX5_digest 73 = .ok (.iload_n 3, 1) := by decide +kernel
theorem dX5_digest_74 : decode cX5_digest 74 = .ok (.invokevirtual 305, 3) := by decide +kernel
theorem dX5_digest_77 : decode cX5_digest 77 = .ok (.lstore_n 1, 1) := by decide +kernel
theorem dX5_digest_78 : decode cX5_digest 78 = .ok (.iinc 3 1, 3) := by decide +kernel
theorem dX5_digest_81 : decode cX5_digest 81 = .ok (.goto (-26), 3) := by decide +kernel
theorem dX5_digest_84 : decode cX5_digest 84 = .ok (.iconst 0, 1) := by decide +kernel
theorem dX5_digest_85 : decode cX5_digest 85 = .ok (.istore_n 3, 1) := by decide +kernel
theorem dX5_digest_86 : decode cX5_digest 86 = .ok (.iload_n 3, 1) := by decide +kernel
theorem dX5_digest_87 : decode cX5_digest 87 = .ok (.aload_n 0, 1) := by decide +kernel
theorem dX5_digest_88 : decode cX5_digest 88 = .ok (.getfield 29, 3) := by decide +kernel
theorem dX5_digest_91 : decode cX5_digest 91 = .ok (.getfield 181, 3) := by decide +kernel
theorem dX5_digest_94 : decode cX5_digest 94 = .ok (.if_icmp .ge 16, 3) := by decide +kernel
theorem dX5_digest_97 : decode cX5_digest 97 = .ok (.aload_n 0, 1) := by decide +kernel
theorem dX5_digest_98 : decode cX5_digest 98 = .ok (.lload_n 1, 1) := by decide +kernel
theorem dX5_digest_99 : decode cX5_digest 99 = .ok (.iload_n 3, 1) := by decide +kernel
theorem dX5_digest_100 : decode cX5_digest 100 = .ok (.invokevirtual 308, 3) := by decide +kernel
theorem dX5_digest_103 : decode cX5_digest 103 = .ok (.lstore_n 1, 1) := by decide +kernel
theorem dX5_digest_104 : decode cX5_digest 104 = .ok (.iinc 3 1, 3) := by decide +kernel
theorem dX5_digest_107 : decode cX5_digest 107 = .ok (.goto (-21), 3) := by decide +kernel
theorem dX5_digest_110 : decode cX5_digest 110 = .ok (.iconst 0, 1) := by decide +kernel
theorem dX5_digest_111 : decode cX5_digest 111 = .ok (.istore_n 3, 1) := by decide +kernel
theorem dX5_digest_112 : decode cX5_digest 112 = .ok (.iload_n 3, 1) := by decide +kernel
theorem dX5_digest_113 : decode cX5_digest 113 = .ok (.aload_n 0, 1) := by decide +kernel
theorem dX5_digest_114 : decode cX5_digest 114 = .ok (.getfield 29, 3) := by decide +kernel
theorem dX5_digest_117 : decode cX5_digest 117 = .ok (.getfield 248, 3) := by decide +kernel
theorem dX5_digest_120 : decode cX5_digest 120 = .ok (.if_icmp .ge 16, 3) := by decide +kernel
theorem dX5_digest_123 : decode cX5_digest 123 = .ok (.aload_n 0, 1) := by decide +kernel
theorem dX5_digest_124 : decode cX5_digest 124 = .ok (.lload_n 1, 1) := by decide +kernel
theorem dX5_digest_125 : decode cX5_digest 125 = .ok (.iload_n 3, 1) := by decide +kernel
theorem dX5_digest_126 : decode cX5_digest 126 = .ok (.invokevirtual 311, 3) := by decide +kernel
theorem dX5_digest_129 : decode cX5_digest 129 = .ok (.lstore_n 1, 1) := by decide +kernel
theorem dX5_digest_130 : decode cX5_digest 130 = .ok (.iinc 3 1, 3) := by decide +kernel
theorem dX5_digest_133 : decode cX5_digest 133 = .ok (.goto (-21), 3) := by decide +kernel
theorem dX5_digest_136 : decode cX5_digest 136 = .ok (.lload_n 1, 1) := by decide +kernel
theorem dX5_digest_137 : decode cX5_digest 137 = .ok (.aload_n 0, 1) := by decide +kernel
theorem dX5_digest_138 : decode cX5_digest 138 = .ok (.bipush 9, 2) := by decide +kernel
theorem dX5_digest_140 : decode cX5_digest 140 = .ok (.invokevirtual 314, 3) := by decide +kernel
theorem dX5_digest_143 : decode cX5_digest 143 = .ok (.i2l, 1) := by decide +kernel
theorem dX5_digest_144 : decode cX5_digest 144 = .ok (.invokestatic 294, 3) := by decide +kernel
theorem dX5_digest_147 : decode cX5_digest 147 = .ok (.aload_n 0, 1) := by decide +kernel
theorem dX5_digest_148 : decode cX5_digest 148 = .ok (.bipush 29, 2) := by decide +kernel
theorem dX5_digest_150 : decode cX5_digest 150 = .ok (.invokevirtual 314, 3) := by decide +kernel
theorem dX5_digest_153 : decode cX5_digest 153 = .ok (.i2l, 1) := by decide +kernel
theorem dX5_digest_154 : decode cX5_digest 154 = .ok (.invokestatic 294, 3) := by decide +kernel
theorem dX5_digest_157 : decode cX5_digest 157 = .ok (.aload_n 0, 1) := by decide +kernel
theorem dX5_digest_158 : decode cX5_digest 158 = .ok (.invokevirtual 317, 3) := by decide +kernel
theorem dX5_digest_161 : decode cX5_digest 161 = .ok (.i2l, 1) := by decide +kernel
theorem dX5_digest_162 : decode cX5_digest 162 = .ok (.invokestatic 294, 3) := by decide +kernel
theorem dX5_digest_165 : decode cX5_digest 165 = .ok (.lstore_n 1, 1) := by decide +kernel
theorem dX5_digest_166 : decode cX5_digest 166 = .ok (.lload_n 1, 1) := by decide +kernel
theorem dX5_digest_167 : decode cX5_digest 167 = .ok (.aload_n 0, 1) := by decide +kernel
theorem dX5_digest_168 : decode cX5_digest 168 = .ok (.invokevirtual 320, 3) := by decide +kernel
theorem dX5_digest_171 : decode cX5_digest 171 = .ok (.i2l, 1) := by decide +kernel
theorem dX5_digest_172 : decode cX5_digest 172 = .ok (.invokestatic 294, 3) := by decide +kernel
theorem dX5_digest_175 : decode cX5_digest 175 = .ok (.aload_n 0, 1) := by decide +kernel
theorem dX5_digest_176 : decode cX5_digest 176 = .ok (.bipush 9, 2) := by decide +kernel
theorem dX5_digest_178 : decode cX5_digest 178 = .ok (.invokevirtual 323, 3) := by decide +kernel
theorem dX5_digest_181 : decode cX5_digest 181 = .ok (.i2l, 1) := by decide +kernel
theorem dX5_digest_182 : decode cX5_digest 182 = .ok (.invokestatic 294, 3) := by decide +kernel
theorem dX5_digest_185 : decode cX5_digest 185 = .ok (.aload_n 0, 1) := by decide +kernel
theorem dX5_digest_186 : decode cX5_digest 186 = .ok (.bipush 29, 2) := by decide +kernel
theorem dX5_digest_188 : decode cX5_digest 188 = .ok (.invokevirtual 323, 3) := by decide +kernel
theorem dX5_digest_191 : decode cX5_digest 191 = .ok (.i2l, 1) := by decide +kernel
theorem dX5_digest_192 : decode cX5_digest 192 = .ok (.invokestatic 294, 3) := by decide +kernel
theorem dX5_digest_195 : decode cX5_digest 195 = .ok (.lstore_n 1, 1) := by decide +kernel
theorem dX5_digest_196 : decode cX5_digest 196 = .ok (.lload_n 1, 1) := by decide +kernel
theorem dX5_digest_197 : decode cX5_digest 197 = .ok (.aload_n 0, 1) := by decide +kernel
theorem dX5_digest_198 : decode cX5_digest 198 = .ok (.bipush 7, 2) := by decide +kernel
theorem dX5_digest_200 : decode cX5_digest 200 = .ok (.iconst (-1), 1) := by decide +kernel
theorem dX5_digest_201 : decode cX5_digest 201 = .ok (.invokevirtual 326, 3) := by decide +kernel
theorem dX5_digest_204 : decode cX5_digest 204 = .ok (.i2l, 1) := by decide +kernel
theorem dX5_digest_205 : decode cX5_digest 205 = .ok (.invokestatic 294, 3) := by decide +kernel
theorem dX5_digest_208 : decode cX5_digest 208 = .ok (.lreturn, 1) := by decide +kernel
theorem dX5_isOneOf_0 : decode cX5_isOneOf 0 = .ok (.iload_n 0, 1) := by decide +kernel
theorem dX5_isOneOf_1 : decode cX5_isOneOf 1 = .ok (.ifCond .lt 12, 3) := by decide +kernel
theorem dX5_isOneOf_4 : decode cX5_isOneOf 4 = .ok (.iload_n 0, 1) := by decide +kernel
theorem dX5_isOneOf_5 : decode cX5_isOneOf 5 = .ok (.iload_n 1, 1) := by decide +kernel
theorem dX5_isOneOf_6 : decode cX5_isOneOf 6 = .ok (.if_icmp .ge 7, 3) := by decide +kernel
theorem dX5_isOneOf_9 : decode cX5_isOneOf 9 = .ok (.iconst 1, 1) := by decide +kernel
theorem dX5_isOneOf_10 : decode cX5_isOneOf 10 = .ok (.goto 4, 3) := by decide +kernel
theorem dX5_isOneOf_13 : decode cX5_isOneOf 13 = .ok (.iconst 0, 1) := by decide +kernel
theorem dX5_isOneOf_14 : decode cX5_isOneOf 14 = .ok (.ireturn, 1) := by decide +kernel
theorem dX5_isDay_0 : decode cX5_isDay 0 = .ok (.iload_n 0, 1) := by decide +kernel
theorem dX5_isDay_1 : decode cX5_isDay 1 = .ok (.bipush 30, 2) := by decide +kernel
theorem dX5_isDay_3 : decode cX5_isDay 3 = .ok (.invokestatic 187, 3) := by decide +kernel
theorem dX5_isDay_6 : decode cX5_isDay 6 = .ok (.ireturn, 1) := by decide +kernel
theorem dX5_isText_0 : decode cX5_isText 0 = .ok (.iload_n 0, 1) := by decide +kernel
theorem dX5_isText_1 : decode cX5_isText 1 = .ok (.iconst 3, 1) := by decide +kernel
theorem dX5_isText_2 : decode cX5_isText 2 = .ok (.invokestatic 187, 3) := by decide +kernel
theorem dX5_isText_5 : decode cX5_isText 5 = .ok (.ireturn, 1) := by decide +kernel
theorem dX5_isMan_0 : decode cX5_isMan 0 = .ok (.iload_n 1, 1) := by decide +kernel
theorem dX5_isMan_1 : decode cX5_isMan 1 = .ok (.aload_n 0, 1) := by decide +kernel
theorem dX5_isMan_2 : decode cX5_isMan 2 = .ok (.getfield 29, 3) := by decide +kernel
theorem dX5_isMan_5 : decode cX5_isMan 5 = .ok (.getfield 257, 3) := by decide +kernel
theorem dX5_isMan_8 : decode cX5_isMan 8 = .ok (.invokestatic 187, 3) := by decide +kernel
theorem dX5_isMan_11 : decode cX5_isMan 11 = .ok (.ireturn, 1) := by decide +kernel
theorem dX5_isInn_0 : decode cX5_isInn 0 = .ok (.iload_n 1, 1) := by decide +kernel
theorem dX5_isInn_1 : decode cX5_isInn 1 = .ok (.aload_n 0, 1) := by decide +kernel
theorem dX5_isInn_2 : decode cX5_isInn 2 = .ok (.getfield 29, 3) := by decide +kernel
theorem dX5_isInn_5 : decode cX5_isInn 5 = .ok (.getfield 181, 3) := by decide +kernel
theorem dX5_isInn_8 : decode cX5_isInn 8 = .ok (.invokestatic 187, 3) := by decide +kernel
theorem dX5_isInn_11 : decode cX5_isInn 11 = .ok (.ireturn, 1) := by decide +kernel
theorem dX5_isShip_0 : decode cX5_isShip 0 = .ok (.iload_n 1, 1) := by decide +kernel
theorem dX5_isShip_1 : decode cX5_isShip 1 = .ok (.aload_n 0, 1) := by decide +kernel
theorem dX5_isShip_2 : decode cX5_isShip 2 = .ok (.getfield 29, 3) := by decide +kernel
theorem dX5_isShip_5 : decode cX5_isShip 5 = .ok (.getfield 248, 3) := by decide +kernel
theorem dX5_isShip_8 : decode cX5_isShip 8 = .ok (.invokestatic 187, 3) := by decide +kernel
theorem dX5_isShip_11 : decode cX5_isShip 11 = .ok (.ireturn, 1) := by decide +kernel
theorem dX5_resize_0 : decode cX5_resize 0 = .ok (.aload_n 1, 1) := by decide +kernel
theorem dX5_resize_1 : decode cX5_resize 1 = .ok (.iload_n 2, 1) := by decide +kernel
theorem dX5_resize_2 : decode cX5_resize 2 = .ok (.putfield 78, 3) := by decide +kernel
theorem dX5_resize_5 : decode cX5_resize 5 = .ok (.aload_n 0, 1) := by decide +kernel
theorem dX5_resize_6 : decode cX5_resize 6 = .ok (.getfield 29, 3) := by decide +kernel
theorem dX5_resize_9 : decode cX5_resize 9 = .ok (.aload_n 0, 1) := by decide +kernel
theorem dX5_resize_10 : decode cX5_resize 10 = .ok (.getfield 11, 3) := by decide +kernel
theorem dX5_resize_13 : decode cX5_resize 13 = .ok (.iconst 0, 1) := by decide +kernel
theorem dX5_resize_14 : decode cX5_resize 14 = .ok (.aaload, 1) := by decide +kernel
theorem dX5_resize_15 : decode cX5_resize 15 = .ok (.invokevirtual 329, 3) := by decide +kernel
theorem dX5_resize_18 : decode cX5_resize 18 = .ok (.aload_n 0, 1) := by decide +kernel
theorem dX5_resize_19 : decode cX5_resize 19 = .ok (.getfield 29, 3) := by decide +kernel
theorem dX5_resize_22 : decode cX5_resize 22 = .ok (.aload_n 0, 1) := by decide +kernel
theorem dX5_resize_23 : decode cX5_resize 23 = .ok (.getfield 11, 3) := by decide +kernel
theorem dX5_resize_26 : decode cX5_resize 26 = .ok (.iconst 1, 1) := by decide +kernel
theorem dX5_resize_27 : decode cX5_resize 27 = .ok (.aaload, 1) := by decide +kernel
theorem dX5_resize_28 : decode cX5_resize 28 = .ok (.invokevirtual 333, 3) := by decide +kernel
theorem dX5_resize_31 : decode cX5_resize 31 = .ok (.aload_n 0, 1) := by decide +kernel
theorem dX5_resize_32 : decode cX5_resize 32 = .ok (.getfield 29, 3) := by decide +kernel
theorem dX5_resize_35 : decode cX5_resize 35 = .ok (.aload_n 0, 1) := by decide +kernel
theorem dX5_resize_36 : decode cX5_resize 36 = .ok (.getfield 11, 3) := by decide +kernel
theorem dX5_resize_39 : decode cX5_resize 39 = .ok (.iconst 2, 1) := by decide +kernel
theorem dX5_resize_40 : decode cX5_resize 40 = .ok (.aaload, 1) := by decide +kernel
theorem dX5_resize_41 : decode cX5_resize 41 = .ok (.invokevirtual 336, 3) := by decide +kernel
theorem dX5_resize_44 : decode cX5_resize 44 = .ok (.aload_n 0, 1) := by decide +kernel
theorem dX5_resize_45 : decode cX5_resize 45 = .ok (.invokevirtual 137, 3) := by decide +kernel
theorem dX5_resize_48 : decode cX5_resize 48 = .ok (.iload_n 2, 1) := by decide +kernel
theorem dX5_resize_49 : decode cX5_resize 49 = .ok (.ireturn, 1) := by decide +kernel
theorem dX5_forgetRuns_0 : decode cX5_forgetRuns 0 = .ok (.aload_n 0, 1) := by decide +kernel
theorem dX5_forgetRuns_1 : decode cX5_forgetRuns 1 = .ok (.iconst 0, 1) := by decide +kernel
theorem dX5_forgetRuns_2 : decode cX5_forgetRuns 2 = .ok (.putfield 53, 3) := by decide +kernel
theorem dX5_forgetRuns_5 : decode cX5_forgetRuns 5 = .ok (.aload_n 0, 1) := by decide +kernel
theorem dX5_forgetRuns_6 : decode cX5_forgetRuns 6 = .ok (.iconst 0, 1) := by decide +kernel
theorem dX5_forgetRuns_7 : decode cX5_forgetRuns 7 = .ok (.putfield 57, 3) := by decide +kernel
theorem dX5_forgetRuns_10 : decode cX5_forgetRuns 10 = .ok (.return_, 1) := by decide +kernel
theorem dX5_month_0 : decode cX5_month 0 = .ok (.aload_n 0, 1) := by decide +kernel
theorem dX5_month_1 : decode cX5_month 1 = .ok (.getfield 53, 3) := by decide +kernel
theorem dX5_month_4 : decode cX5_month 4 = .ok (.ifCond .ne 15, 3) := by decide +kernel
theorem dX5_month_7 : decode cX5_month 7 = .ok (.aload_n 0, 1) := by decide +kernel
theorem dX5_month_8 : decode cX5_month 8 = .ok (.getfield 18, 3) := by decide +kernel
theorem dX5_month_11 : decode cX5_month 11 = .ok (.invokevirtual 195, 3) := by decide +kernel
theorem dX5_month_14 : decode cX5_month 14 = .ok (.aload_n 0, 1) := by decide +kernel
theorem dX5_month_15 : decode cX5_month 15 = .ok (.iconst 1, 1) := by decide +kernel
theorem dX5_month_16 : decode cX5_month 16 = .ok (.putfield 53, 3) := by decide +kernel
theorem dX5_month_19 : decode cX5_month 19 = .ok (.aload_n 0, 1) := by decide +kernel
theorem dX5_month_20 : decode cX5_month 20 = .ok (.getfield 18, 3) := by decide +kernel
theorem dX5_month_23 : decode cX5_month 23 = .ok (.areturn, 1) := by decide +kernel
theorem dX5_learnFates_0 : decode cX5_learnFates 0 = .ok (.aload_n 0, 1) := by decide +kernel
theorem dX5_learnFates_1 : decode cX5_learnFates 1 = .ok (.getfield 57, 3) := by decide +kernel
theorem dX5_learnFates_4 : decode cX5_learnFates 4 = .ok (.ifCond .eq 4, 3) := by decide +kernel
theorem dX5_learnFates_7 : decode cX5_learnFates 7 = .ok (.return_, 1) := by decide +kernel
theorem dX5_learnFates_8 : decode cX5_learnFates 8 = .ok (.aload_n 0, 1) := by decide +kernel
theorem dX5_learnFates_9 : decode cX5_learnFates 9 = .ok (.getfield 30, 3) := by decide +kernel
theorem dX5_learnFates_12 : decode cX5_learnFates 12 = .ok (.aload_n 0, 1) := by decide +kernel
theorem dX5_learnFates_13 : decode cX5_learnFates 13 = .ok (.getfield 29, 3) := by decide +kernel
theorem dX5_learnFates_16 : decode cX5_learnFates 16 = .ok (.invokevirtual 191, 3) := by decide +kernel
theorem dX5_learnFates_19 : decode cX5_learnFates 19 = .ok (.iconst 0, 1) := by decide +kernel
theorem dX5_learnFates_20 : decode cX5_learnFates 20 = .ok (.istore_n 1, 1) := by decide +kernel
theorem dX5_learnFates_21 : decode cX5_learnFates 21 = .ok (.iload_n 1, 1) := by decide +kernel
theorem dX5_learnFates_22 : decode cX5_learnFates 22 = .ok (.iconst 1, 1) := by decide +kernel
theorem dX5_learnFates_23 : decode cX5_learnFates 23 = .ok (.aload_n 0, 1) := by decide +kernel
theorem dX5_learnFates_24 : decode cX5_learnFates 24 = .ok (.getfield 29, 3) := by decide +kernel
theorem dX5_learnFates_27 : decode cX5_learnFates 27 = .ok (.getfield 248, 3) := by decide +kernel
theorem dX5_learnFates_30 : decode cX5_learnFates 30 = .ok (.ishl, 1) := by decide +kernel
theorem dX5_learnFates_31 : decode cX5_learnFates 31 = .ok (.if_icmp .ge 51, 3) := by decide +kernel
theorem dX5_learnFates_34 : decode cX5_learnFates 34 = .ok (.iload_n 1, 1) := by decide +kernel
theorem dX5_learnFates_35 : decode cX5_learnFates 35 = .ok (.bipush 64, 2) := by decide +kernel
theorem dX5_learnFates_37 : decode cX5_learnFates 37 = .ok (.if_icmp .ge 45, 3) := by decide +kernel
theorem dX5_learnFates_40 : decode cX5_learnFates 40 = .ok (.aload_n 0, 1) := by decide +kernel
theorem dX5_learnFates_41 : decode cX5_learnFates 41 = .ok (.getfield 30, 3) := by decide +kernel
theorem dX5_learnFates_44 : decode cX5_learnFates 44 = .ok (.iload_n 1, 1) := by decide +kernel
theorem dX5_learnFates_45 : decode cX5_learnFates 45 = .ok (.putfield 339, 3) := by decide +kernel
theorem dX5_learnFates_48 : decode cX5_learnFates 48 = .ok (.aload_n 0, 1) := by decide +kernel
theorem dX5_learnFates_49 : decode cX5_learnFates 49 = .ok (.getfield 22, 3) := by decide +kernel
theorem dX5_learnFates_52 : decode cX5_learnFates 52 = .ok (.invokevirtual 195, 3) := by decide +kernel
theorem dX5_learnFates_55 : decode cX5_learnFates 55 = .ok (.aload_n 0, 1) := by decide +kernel
theorem dX5_learnFates_56 : decode cX5_learnFates 56 = .ok (.getfield 22, 3) := by decide +kernel
theorem dX5_learnFates_59 : decode cX5_learnFates 59 = .ok (.getfield 204, 3) := by decide +kernel
theorem dX5_learnFates_62 : decode cX5_learnFates 62 = .ok (.iconst 0, 1) := by decide +kernel
theorem dX5_learnFates_63 : decode cX5_learnFates 63 = .ok (.aload_n 0, 1) := by decide +kernel
theorem dX5_learnFates_64 : decode cX5_learnFates 64 = .ok (.getfield 33, 3) := by decide +kernel
theorem dX5_learnFates_67 : decode cX5_learnFates 67 = .ok (.iload_n 1, 1) := by decide +kernel
theorem dX5_learnFates_68 : decode cX5_learnFates 68 = .ok (.bipush 8, 2) := by decide +kernel
theorem dX5_learnFates_70 : decode cX5_learnFates 70 = .ok (.imul, 1) := by decide +kernel
theorem dX5_learnFates_71 : decode cX5_learnFates 71 = .ok (.bipush 8, 2) := by decide +kernel
theorem dX5_learnFates_73 : decode cX5_learnFates 73 = .ok (.invokestatic 278, 3) := by decide +kernel
theorem dX5_learnFates_76 : decode cX5_learnFates 76 = .ok (.iinc 1 1, 3) := by decide +kernel
theorem dX5_learnFates_79 : decode cX5_learnFates 79 = .ok (.goto (-58), 3) := by decide +kernel
theorem dX5_learnFates_82 : decode cX5_learnFates 82 = .ok (.aload_n 0, 1) := by decide +kernel
theorem dX5_learnFates_83 : decode cX5_learnFates 83 = .ok (.iconst 1, 1) := by decide +kernel
theorem dX5_learnFates_84 : decode cX5_learnFates 84 = .ok (.putfield 57, 3) := by decide +kernel
theorem dX5_learnFates_87 : decode cX5_learnFates 87 = .ok (.return_, 1) := by decide +kernel
theorem dX5_fewestAbsent_0 : decode cX5_fewestAbsent 0 = .ok (.aload_n 0, 1) := by decide +kernel
theorem dX5_fewestAbsent_1 : decode cX5_fewestAbsent 1 = .ok (.iconst 0, 1) := by decide +kernel
theorem dX5_fewestAbsent_2 : decode cX5_fewestAbsent 2 = .ok (.iload_n 1, 1) := by decide +kernel
theorem dX5_fewestAbsent_3 : decode cX5_fewestAbsent 3 = .ok (.invokevirtual 342, 3) := by decide +kernel
theorem dX5_fewestAbsent_6 : decode cX5_fewestAbsent 6 = .ok (.ifCond .eq 5, 3) := by decide +kernel
theorem dX5_fewestAbsent_9 : decode cX5_fewestAbsent 9 = .ok (.iconst 0, 1) := by decide +kernel
theorem dX5_fewestAbsent_10 : decode cX5_fewestAbsent 10 = .ok (.ireturn, 1) := by decide +kernel
theorem dX5_fewestAbsent_11 : decode cX5_fewestAbsent 11 = .ok (.iconst 0, 1) := by decide +kernel
theorem dX5_fewestAbsent_12 : decode cX5_fewestAbsent 12 = .ok (.istore_n 2, 1) := by decide +kernel
theorem dX5_fewestAbsent_13 : decode cX5_fewestAbsent 13 = .ok (.iload_n 2, 1) := by decide +kernel
theorem dX5_fewestAbsent_14 : decode cX5_fewestAbsent 14 = .ok (.aload_n 0, 1) := by decide +kernel
theorem dX5_fewestAbsent_15 : decode cX5_fewestAbsent 15 = .ok (.getfield 29, 3) := by decide +kernel
theorem dX5_fewestAbsent_18 : decode cX5_fewestAbsent 18 = .ok (.getfield 248, 3) := by decide +kernel
theorem dX5_fewestAbsent_21 : decode cX5_fewestAbsent 21 = .ok (.if_icmp .ge 24, 3) := by decide +kernel
theorem dX5_fewestAbsent_24 : decode cX5_fewestAbsent 24 = .ok (.aload_n 0, 1) := by decide +kernel
theorem dX5_fewestAbsent_25 : decode cX5_fewestAbsent 25 = .ok (.iconst 1, 1) := by decide +kernel
theorem dX5_fewestAbsent_26 : decode cX5_fewestAbsent 26 = .ok (.iload_n 2, 1) := by decide +kernel
theorem dX5_fewestAbsent_27 : decode cX5_fewestAbsent 27 = .ok (.ishl, 1) := by decide +kernel
theorem dX5_fewestAbsent_28 : decode cX5_fewestAbsent 28 = .ok (.iload_n 1, 1) := by decide +kernel
theorem dX5_fewestAbsent_29 : decode cX5_fewestAbsent 29 = .ok (.invokevirtual 342, 3) := by decide +kernel
theorem dX5_fewestAbsent_32 : decode cX5_fewestAbsent 32 = .ok (.ifCond .eq 7, 3) := by decide +kernel
theorem dX5_fewestAbsent_35 : decode cX5_fewestAbsent 35 = .ok (.iconst 1, 1) := by decide +kernel
theorem dX5_fewestAbsent_36 : decode cX5_fewestAbsent 36 = .ok (.iload_n 2, 1) := by decide +kernel
theorem dX5_fewestAbsent_37 : decode cX5_fewestAbsent 37 = .ok (.ishl, 1) := by decide +kernel
theorem dX5_fewestAbsent_38 : decode cX5_fewestAbsent 38 = .ok (.ireturn, 1) := by decide +kernel
theorem dX5_fewestAbsent_39 : decode cX5_fewestAbsent 39 = .ok (.iinc 2 1, 3) := by decide +kernel
theorem dX5_fewestAbsent_42 : decode cX5_fewestAbsent 42 = .ok (.goto (-29), 3) := by decide +kernel
theorem dX5_fewestAbsent_45 : decode cX5_fewestAbsent 45 = .ok (.iconst 0, 1) := by decide +kernel
theorem dX5_fewestAbsent_46 : decode cX5_fewestAbsent 46 = .ok (.istore_n 2, 1) := by decide +kernel
theorem dX5_fewestAbsent_47 : decode cX5_fewestAbsent 47 = .ok (.iload_n 2, 1) := by decide +kernel
theorem dX5_fewestAbsent_48 : decode cX5_fewestAbsent 48 = .ok (.aload_n 0, 1) := by decide +kernel
theorem dX5_fewestAbsent_49 : decode cX5_fewestAbsent 49 = .ok (.getfield 29, 3) := by decide +kernel
theorem dX5_fewestAbsent_52 : decode cX5_fewestAbsent 52 = .ok (.getfield 248, 3) := by decide +kernel
theorem dX5_fewestAbsent_55 : decode cX5_fewestAbsent 55 = .ok (.if_icmp .ge 53, 3) := by decide +kernel
theorem dX5_fewestAbsent_58 : decode cX5_fewestAbsent 58 = .ok (.iload_n 2, 1) := by decide +kernel
theorem dX5_fewestAbsent_59 : decode cX5_fewestAbsent 59 = .ok (.iconst 1, 1) := by decide +kernel
theorem dX5_fewestAbsent_60 : decode cX5_fewestAbsent 60 = .ok (.iadd, 1) := by decide +kernel
theorem dX5_fewestAbsent_61 : decode cX5_fewestAbsent 61 = .ok (.istore_n 3, 1) := by decide +kernel
theorem dX5_fewestAbsent_62 : decode cX5_fewestAbsent 62 = .ok (.iload_n 3, 1) := by decide +kernel
theorem dX5_fewestAbsent_63 : decode cX5_fewestAbsent 63 = .ok (.aload_n 0, 1) := by decide +kernel
theorem dX5_fewestAbsent_64 : decode cX5_fewestAbsent 64 = .ok (.getfield 29, 3) := by decide +kernel
theorem dX5_fewestAbsent_67 : decode cX5_fewestAbsent 67 = .ok (.getfield 248, 3) := by decide +kernel
theorem dX5_fewestAbsent_70 : decode cX5_fewestAbsent 70 = .ok (.if_icmp .ge 32, 3) := by decide +kernel
theorem dX5_fewestAbsent_73 : decode cX5_fewestAbsent 73 = .ok (.aload_n 0, 1) := by decide +kernel
theorem dX5_fewestAbsent_74 : decode cX5_fewestAbsent 74 = .ok (.iconst 1, 1) := by decide +kernel
theorem dX5_fewestAbsent_75 : decode cX5_fewestAbsent 75 = .ok (.iload_n 2, 1) := by decide +kernel
theorem dX5_fewestAbsent_76 : decode cX5_fewestAbsent 76 = .ok (.ishl, 1) := by decide +kernel
theorem dX5_fewestAbsent_77 : decode cX5_fewestAbsent 77 = .ok (.iconst 1, 1) := by decide +kernel
theorem dX5_fewestAbsent_78 : decode cX5_fewestAbsent 78 = .ok (.iload_n 3, 1) := by decide +kernel
theorem dX5_fewestAbsent_79 : decode cX5_fewestAbsent 79 = .ok (.ishl, 1) := by decide +kernel
theorem dX5_fewestAbsent_80 : decode cX5_fewestAbsent 80 = .ok (.ior, 1) := by decide +kernel
theorem dX5_fewestAbsent_81 : decode cX5_fewestAbsent 81 = .ok (.iload_n 1, 1) := by decide +kernel
theorem dX5_fewestAbsent_82 : decode cX5_fewestAbsent 82 = .ok (.invokevirtual 342, 3) := by decide +kernel
theorem dX5_fewestAbsent_85 : decode cX5_fewestAbsent 85 = .ok (.ifCond .eq 11, 3) := by decide +kernel
theorem dX5_fewestAbsent_88 : decode cX5_fewestAbsent 88 = .ok (.iconst 1, 1) := by decide +kernel
theorem dX5_fewestAbsent_89 : decode cX5_fewestAbsent 89 = .ok (.iload_n 2, 1) := by decide +kernel
theorem dX5_fewestAbsent_90 : decode cX5_fewestAbsent 90 = .ok (.ishl, 1) := by decide +kernel
theorem dX5_fewestAbsent_91 : decode cX5_fewestAbsent 91 = .ok (.iconst 1, 1) := by decide +kernel
theorem dX5_fewestAbsent_92 : decode cX5_fewestAbsent 92 = .ok (.iload_n 3, 1) := by decide +kernel
theorem dX5_fewestAbsent_93 : decode cX5_fewestAbsent 93 = .ok (.ishl, 1) := by decide +kernel
theorem dX5_fewestAbsent_94 : decode cX5_fewestAbsent 94 = .ok (.ior, 1) := by decide +kernel
theorem dX5_fewestAbsent_95 : decode cX5_fewestAbsent 95 = .ok (.ireturn, 1) := by decide +kernel
theorem dX5_fewestAbsent_96 : decode cX5_fewestAbsent 96 = .ok (.iinc 3 1, 3) := by decide +kernel
theorem dX5_fewestAbsent_99 : decode cX5_fewestAbsent 99 = .ok (.goto (-37), 3) := by decide +kernel
theorem dX5_fewestAbsent_102 : decode cX5_fewestAbsent 102 = .ok (.iinc 2 1, 3) := by decide +kernel
theorem dX5_fewestAbsent_105 : decode cX5_fewestAbsent 105 = .ok (.goto (-58), 3) := by decide +kernel
theorem dX5_fewestAbsent_108 : decode cX5_fewestAbsent 108 = .ok (.iconst (-1), 1) := by decide +kernel
theorem dX5_fewestAbsent_109 : decode cX5_fewestAbsent 109 = .ok (.ireturn, 1) := by decide +kernel
theorem dX5_staysWithout_0 : decode cX5_staysWithout 0 = .ok (.iload_n 1, 1) := by decide +kernel
theorem dX5_staysWithout_1 : decode cX5_staysWithout 1 = .ok (.bipush 64, 2) := by decide +kernel
theorem dX5_staysWithout_3 : decode cX5_staysWithout 3 = .ok (.invokestatic 187, 3) := by decide +kernel
theorem dX5_staysWithout_6 : decode cX5_staysWithout 6 = .ok (.ifCond .eq 22, 3) := by decide +kernel
theorem dX5_staysWithout_9 : decode cX5_staysWithout 9 = .ok (.aload_n 0, 1) := by decide +kernel
theorem dX5_staysWithout_10 : decode cX5_staysWithout 10 = .ok (.getfield 33, 3) := by decide +kernel
theorem dX5_staysWithout_13 : decode cX5_staysWithout 13 = .ok (.iload_n 1, 1) := by decide +kernel
theorem dX5_staysWithout_14 : decode cX5_staysWithout 14 = .ok (.bipush 8, 2) := by decide +kernel
theorem dX5_staysWithout_16 : decode cX5_staysWithout 16 = .ok (.imul, 1) := by decide +kernel
theorem dX5_staysWithout_17 : decode cX5_staysWithout 17 = .ok (.iload_n 2, 1) := by decide +kernel
theorem dX5_staysWithout_18 : decode cX5_staysWithout 18 = .ok (.iadd, 1) := by decide +kernel
theorem dX5_staysWithout_19 : decode cX5_staysWithout 19 = .ok (.iaload, 1) := by decide +kernel
theorem dX5_staysWithout_20 : decode cX5_staysWithout 20 = .ok (.iconst (-1), 1) := by decide +kernel
theorem dX5_staysWithout_21 : decode cX5_staysWithout 21 = .ok (.if_icmp .ne 7, 3) := by decide +kernel
theorem dX5_staysWithout_24 : decode cX5_staysWithout 24 = .ok (.iconst 1, 1) := by decide +kernel
theorem dX5_staysWithout_25 : decode cX5_staysWithout 25 = .ok (.goto 4, 3) := by decide +kernel
theorem dX5_staysWithout_28 : decode cX5_staysWithout 28 = .ok (.iconst 0, 1) := by decide +kernel
theorem dX5_staysWithout_29 : decode cX5_staysWithout 29 = .ok (.ireturn, 1) := by decide +kernel
theorem dX5_shipsThatFit_0 : decode cX5_shipsThatFit 0 = .ok (.iconst 0, 1) := by decide +kernel
theorem dX5_shipsThatFit_1 : decode cX5_shipsThatFit 1 = .ok (.istore_n 2, 1) := by decide +kernel
theorem dX5_shipsThatFit_2 : decode cX5_shipsThatFit 2 = .ok (.aload_n 0, 1) := by decide +kernel
theorem dX5_shipsThatFit_3 : decode cX5_shipsThatFit 3 = .ok (.getfield 30, 3) := by decide +kernel
theorem dX5_shipsThatFit_6 : decode cX5_shipsThatFit 6 = .ok (.aload_n 0, 1) := by decide +kernel
theorem dX5_shipsThatFit_7 : decode cX5_shipsThatFit 7 = .ok (.getfield 29, 3) := by decide +kernel
theorem dX5_shipsThatFit_10 : decode cX5_shipsThatFit 10 = .ok (.invokevirtual 191, 3) := by decide +kernel
theorem dX5_shipsThatFit_13 : decode cX5_shipsThatFit 13 = .ok (.iconst 0, 1) := by decide +kernel
theorem dX5_shipsThatFit_14 : decode cX5_shipsThatFit 14 = .ok (.istore_n 3, 1) := by decide +kernel
theorem dX5_shipsThatFit_15 : decode cX5_shipsThatFit 15 = .ok (.iload_n 3, 1) := by decide +kernel
theorem dX5_shipsThatFit_16 : decode cX5_shipsThatFit 16 = .ok (.aload_n 0, 1) := by decide +kernel
theorem dX5_shipsThatFit_17 : decode cX5_shipsThatFit 17 = .ok (.getfield 29, 3) := by decide +kernel
theorem dX5_shipsThatFit_20 : decode cX5_shipsThatFit 20 = .ok (.getfield 248, 3) := by decide +kernel
theorem dX5_shipsThatFit_23 : decode cX5_shipsThatFit 23 = .ok (.if_icmp .ge 70, 3) := by decide +kernel
theorem dX5_shipsThatFit_26 : decode cX5_shipsThatFit 26 = .ok (.aload_n 0, 1) := by decide +kernel
theorem dX5_shipsThatFit_27 : decode cX5_shipsThatFit 27 = .ok (.getfield 30, 3) := by decide +kernel
theorem dX5_shipsThatFit_30 : decode cX5_shipsThatFit 30 = .ok (.iconst 1, 1) := by decide +kernel
theorem dX5_shipsThatFit_31 : decode cX5_shipsThatFit 31 = .ok (.iload_n 3, 1) := by decide +kernel
theorem dX5_shipsThatFit_32 : decode cX5_shipsThatFit 32 = .ok (.ishl, 1) := by decide +kernel
theorem dX5_shipsThatFit_33 : decode cX5_shipsThatFit 33 = .ok (.putfield 339, 3) := by decide +kernel
theorem dX5_shipsThatFit_36 : decode cX5_shipsThatFit 36 = .ok (.aload_n 0, 1) := by decide +kernel
theorem dX5_shipsThatFit_37 : decode cX5_shipsThatFit 37 = .ok (.getfield 22, 3) := by decide +kernel
theorem dX5_shipsThatFit_40 : decode cX5_shipsThatFit 40 = .ok (.invokevirtual 195, 3) := by decide +kernel
theorem dX5_shipsThatFit_43 : decode cX5_shipsThatFit 43 = .ok (.aload_n 0, 1) := by decide +kernel
theorem dX5_shipsThatFit_44 : decode cX5_shipsThatFit 44 = .ok (.getfield 22, 3) := by decide +kernel
theorem dX5_shipsThatFit_47 : decode cX5_shipsThatFit 47 = .ok (.getfield 156, 3) := by decide +kernel
theorem dX5_shipsThatFit_50 : decode cX5_shipsThatFit 50 = .ok (.iload_n 1, 1) := by decide +kernel
theorem dX5_shipsThatFit_51 : decode cX5_shipsThatFit 51 = .ok (.bipush 8, 2) := by decide +kernel
theorem dX5_shipsThatFit_53 : decode cX5_shipsThatFit 53 = .ok (.imul, 1) := by decide +kernel
theorem dX5_shipsThatFit_54 : decode cX5_shipsThatFit 54 = .ok (.aload_n 0, 1) := by decide +kernel
theorem dX5_shipsThatFit_55 : decode cX5_shipsThatFit 55 = .ok (.getfield 37, 3) := by decide +kernel
theorem dX5_shipsThatFit_58 : decode cX5_shipsThatFit 58 = .ok (.iload_n 3, 1) := by decide +kernel
theorem dX5_shipsThatFit_59 : decode cX5_shipsThatFit 59 = .ok (.bipush 8, 2) := by decide +kernel
theorem dX5_shipsThatFit_61 : decode cX5_shipsThatFit 61 = .ok (.imul, 1) := by decide +kernel
theorem dX5_shipsThatFit_62 : decode cX5_shipsThatFit 62 = .ok (.bipush 8, 2) := by decide +kernel
theorem dX5_shipsThatFit_64 : decode cX5_shipsThatFit 64 = .ok (.invokestatic 278, 3) := by decide +kernel
theorem dX5_shipsThatFit_67 : decode cX5_shipsThatFit 67 = .ok (.aload_n 0, 1) := by decide +kernel
theorem dX5_shipsThatFit_68 : decode cX5_shipsThatFit 68 = .ok (.getfield 43, 3) := by decide +kernel
theorem dX5_shipsThatFit_71 : decode cX5_shipsThatFit 71 = .ok (.aload_n 0, 1) := by decide +kernel
theorem dX5_shipsThatFit_72 : decode cX5_shipsThatFit 72 = .ok (.getfield 22, 3) := by decide +kernel
theorem dX5_shipsThatFit_75 : decode cX5_shipsThatFit 75 = .ok (.invokevirtual 237, 3) := by decide +kernel
theorem dX5_shipsThatFit_78 : decode cX5_shipsThatFit 78 = .ok (.ifCond .eq 9, 3) := by decide +kernel
theorem dX5_shipsThatFit_81 : decode cX5_shipsThatFit 81 = .ok (.iload_n 2, 1) := by decide +kernel
theorem dX5_shipsThatFit_82 : decode cX5_shipsThatFit 82 = .ok (.iconst 1, 1) := by decide +kernel
theorem dX5_shipsThatFit_83 : decode cX5_shipsThatFit 83 = .ok (.iload_n 3, 1) := by decide +kernel
theorem dX5_shipsThatFit_84 : decode cX5_shipsThatFit 84 = .ok (.ishl, 1) := by decide +kernel
theorem dX5_shipsThatFit_85 : decode cX5_shipsThatFit 85 = .ok (.ior, 1) := by decide +kernel
theorem dX5_shipsThatFit_86 : decode cX5_shipsThatFit 86 = .ok (.istore_n 2, 1) := by decide +kernel
theorem dX5_shipsThatFit_87 : decode cX5_shipsThatFit 87 = .ok (.iinc 3 1, 3) := by decide +kernel
theorem dX5_shipsThatFit_90 : decode cX5_shipsThatFit 90 = .ok (.goto (-75), 3) := by decide +kernel
theorem dX5_shipsThatFit_93 : decode cX5_shipsThatFit 93 = .ok (.iload_n 2, 1) := by decide +kernel
theorem dX5_shipsThatFit_94 : decode cX5_shipsThatFit 94 = .ok (.ireturn, 1) := by decide +kernel
theorem dX5_greatestAlike_0 : decode cX5_greatestAlike 0 = .ok (.iconst 0, 1) := by decide +kernel
theorem dX5_greatestAlike_1 : decode cX5_greatestAlike 1 = .ok (.istore_n 3, 1) := by decide +kernel
theorem dX5_greatestAlike_2 : decode cX5_greatestAlike 2 = .ok (.iconst 0, 1) := by decide +kernel
theorem dX5_greatestAlike_3 : decode cX5_greatestAlike 3 = .ok (.istore 4, 2) := by decide +kernel
theorem dX5_greatestAlike_5 : decode cX5_greatestAlike 5 = .ok (.iload 4, 2) := by decide +kernel
theorem dX5_greatestAlike_7 : decode cX5_greatestAlike 7 = .ok (.aload_n 0, 1) := by decide +kernel
theorem dX5_greatestAlike_8 : decode cX5_greatestAlike 8 = .ok (.getfield 29, 3) := by decide +kernel
theorem dX5_greatestAlike_11 : decode cX5_greatestAlike 11 = .ok (.getfield 248, 3) := by decide +kernel
theorem dX5_greatestAlike_14 : decode cX5_greatestAlike 14 = .ok (.if_icmp .ge 102, 3) := by decide +kernel
theorem dX5_greatestAlike_17 : decode cX5_greatestAlike 17 = .ok (.iconst 0, 1) := by decide +kernel
theorem dX5_greatestAlike_18 : decode cX5_greatestAlike 18 = .ok (.istore 5, 2) := by decide +kernel
theorem dX5_greatestAlike_20 : decode cX5_greatestAlike 20 = .ok (.iconst 0, 1) := by decide +kernel
theorem dX5_greatestAlike_21 : decode cX5_greatestAlike 21 = .ok (.istore 6, 2) := by decide +kernel
theorem dX5_greatestAlike_23 : decode cX5_greatestAlike 23 = .ok (.iload 6, 2) := by decide +kernel
theorem dX5_greatestAlike_25 : decode cX5_greatestAlike 25 = .ok (.aload_n 0, 1) := by decide +kernel
theorem dX5_greatestAlike_26 : decode cX5_greatestAlike 26 = .ok (.getfield 29, 3) := by decide +kernel
theorem dX5_greatestAlike_29 : decode cX5_greatestAlike 29 = .ok (.getfield 248, 3) := by decide +kernel
theorem dX5_greatestAlike_32 : decode cX5_greatestAlike 32 = .ok (.if_icmp .ge 71, 3) := by decide +kernel
theorem dX5_greatestAlike_35 : decode cX5_greatestAlike 35 = .ok (.iload_n 1, 1) := by decide +kernel
theorem dX5_greatestAlike_36 : decode cX5_greatestAlike 36 = .ok (.iload 4, 2) := by decide +kernel
theorem dX5_greatestAlike_38 : decode cX5_greatestAlike 38 = .ok (.ishr, 1) := by decide +kernel
theorem dX5_greatestAlike_39 : decode cX5_greatestAlike 39 = .ok (.iconst 1, 1) := by decide +kernel
theorem dX5_greatestAlike_40 : decode cX5_greatestAlike 40 = .ok (.iand, 1) := by decide +kernel
theorem dX5_greatestAlike_41 : decode cX5_greatestAlike 41 = .ok (.iconst 1, 1) := by decide +kernel
theorem dX5_greatestAlike_42 : decode cX5_greatestAlike 42 = .ok (.if_icmp .ne 17, 3) := by decide +kernel
theorem dX5_greatestAlike_45 : decode cX5_greatestAlike 45 = .ok (.iload_n 1, 1) := by decide +kernel
theorem dX5_greatestAlike_46 : decode cX5_greatestAlike 46 = .ok (.iload 6, 2) := by decide +kernel
theorem dX5_greatestAlike_48 : decode cX5_greatestAlike 48 = .ok (.ishr, 1) := by decide +kernel
theorem dX5_greatestAlike_49 : decode cX5_greatestAlike 49 = .ok (.iconst 1, 1) := by decide +kernel
theorem dX5_greatestAlike_50 : decode cX5_greatestAlike 50 = .ok (.iand, 1) := by decide +kernel
theorem dX5_greatestAlike_51 : decode cX5_greatestAlike 51 = .ok (.iconst 1, 1) := by decide +kernel
theorem dX5_greatestAlike_52 : decode cX5_greatestAlike 52 = .ok (.if_icmp .ne 7, 3) := by decide +kernel
theorem dX5_greatestAlike_55 : decode cX5_greatestAlike 55 = .ok (.iconst 1, 1) := by decide +kernel
theorem dX5_greatestAlike_56 : decode cX5_greatestAlike 56 = .ok (.goto 4, 3) := by decide +kernel
theorem dX5_greatestAlike_59 : decode cX5_greatestAlike 59 = .ok (.iconst 0, 1) := by decide +kernel
theorem dX5_greatestAlike_60 : decode cX5_greatestAlike 60 = .ok (.istore 7, 2) := by decide +kernel
theorem dX5_greatestAlike_62 : decode cX5_greatestAlike 62 = .ok (.iload 7, 2) := by decide +kernel
theorem dX5_greatestAlike_64 : decode cX5_greatestAlike 64 = .ok (.ifCond .eq 33, 3) := by decide +kernel
theorem dX5_greatestAlike_67 : decode cX5_greatestAlike 67 = .ok (.aload_n 0, 1) := by decide +kernel
theorem dX5_greatestAlike_68 : decode cX5_greatestAlike 68 = .ok (.getfield 37, 3) := by decide +kernel
theorem dX5_greatestAlike_71 : decode cX5_greatestAlike 71 = .ok (.iload 4, 2) := by decide +kernel
theorem dX5_greatestAlike_73 : decode cX5_greatestAlike 73 = .ok (.bipush 8, 2) := by decide +kernel
theorem dX5_greatestAlike_75 : decode cX5_greatestAlike 75 = .ok (.imul, 1) := by decide +kernel
theorem dX5_greatestAlike_76 : decode cX5_greatestAlike 76 = .ok (.iload_n 2, 1) := by decide +kernel
theorem dX5_greatestAlike_77 : decode cX5_greatestAlike 77 = .ok (.iadd, 1) := by decide +kernel
theorem dX5_greatestAlike_78 : decode cX5_greatestAlike 78 = .ok (.iaload, 1) := by decide +kernel
theorem dX5_greatestAlike_79 : decode cX5_greatestAlike 79 = .ok (.aload_n 0, 1) := by decide +kernel
theorem dX5_greatestAlike_80 : decode cX5_greatestAlike 80 = .ok (.getfield 37, 3) := by decide +kernel
theorem dX5_greatestAlike_83 : decode cX5_greatestAlike 83 = .ok (.iload 6, 2) := by decide +kernel
theorem dX5_greatestAlike_85 : decode cX5_greatestAlike 85 = .ok (.bipush 8, 2) := by decide +kernel
theorem dX5_greatestAlike_87 : decode cX5_greatestAlike 87 = .ok (.imul, 1) := by decide +kernel
theorem dX5_greatestAlike_88 : decode cX5_greatestAlike 88 = .ok (.iload_n 2, 1) := by decide +kernel
theorem dX5_greatestAlike_89 : decode cX5_greatestAlike 89 = .ok (.iadd, 1) := by decide +kernel
theorem dX5_greatestAlike_90 : decode cX5_greatestAlike 90 = .ok (.iaload, 1) := by decide +kernel
theorem dX5_greatestAlike_91 : decode cX5_greatestAlike 91 = .ok (.if_icmp .ne 6, 3) := by decide +kernel
theorem dX5_greatestAlike_94 : decode cX5_greatestAlike 94 = .ok (.iinc 5 1, 3) := by decide +kernel
theorem dX5_greatestAlike_97 : decode cX5_greatestAlike 97 = .ok (.iinc 6 1, 3) := by decide +kernel
theorem dX5_greatestAlike_100 : decode cX5_greatestAlike 100 = .ok (.goto (-77), 3) := by decide +kernel
theorem dX5_greatestAlike_103 : decode cX5_greatestAlike 103 = .ok (.iload_n 3, 1) := by decide +kernel
theorem dX5_greatestAlike_104 : decode cX5_greatestAlike 104 = .ok (.iload 5, 2) := by decide +kernel
theorem dX5_greatestAlike_106 : decode cX5_greatestAlike 106 = .ok (.invokestatic 345, 3) := by decide +kernel
theorem dX5_greatestAlike_109 : decode cX5_greatestAlike 109 = .ok (.istore_n 3, 1) := by decide +kernel
theorem dX5_greatestAlike_110 : decode cX5_greatestAlike 110 = .ok (.iinc 4 1, 3) := by decide +kernel
theorem dX5_greatestAlike_113 : decode cX5_greatestAlike 113 = .ok (.goto (-108), 3) := by decide +kernel
theorem dX5_greatestAlike_116 : decode cX5_greatestAlike 116 = .ok (.iload_n 3, 1) := by decide +kernel
theorem dX5_greatestAlike_117 : decode cX5_greatestAlike 117 = .ok (.ireturn, 1) := by decide +kernel
theorem dX5_weight_0 : decode cX5_weight 0 = .ok (.lconst 1, 1) := by decide +kernel
theorem dX5_weight_1 : decode cX5_weight 1 = .ok (.lstore_n 3, 1) := by decide +kernel
theorem dX5_weight_2 : decode cX5_weight 2 = .ok (.iconst 0, 1) := by decide +kernel
theorem dX5_weight_3 : decode cX5_weight 3 = .ok (.istore 5, 2) := by decide +kernel
theorem dX5_weight_5 : decode cX5_weight 5 = .ok (.iload 5, 2) := by decide +kernel
theorem dX5_weight_7 : decode cX5_weight 7 = .ok (.aload_n 0, 1) := by decide +kernel
theorem dX5_weight_8 : decode cX5_weight 8 = .ok (.getfield 29, 3) := by decide +kernel
theorem dX5_weight_11 : decode cX5_weight 11 = .ok (.getfield 248, 3) := by decide +kernel
theorem dX5_weight_14 : decode cX5_weight 14 = .ok (.if_icmp .ge 28, 3) := by decide +kernel
theorem dX5_weight_17 : decode cX5_weight 17 = .ok (.lload_n 3, 1) := by decide +kernel
theorem dX5_weight_18 : decode cX5_weight 18 = .ok (.iload 5, 2) := by decide +kernel
theorem dX5_weight_20 : decode cX5_weight 20 = .ok (.iload_n 2, 1) := by decide +kernel
theorem dX5_weight_21 : decode cX5_weight 21 = .ok (.if_icmp .ge 11, 3) := by decide +kernel
theorem dX5_weight_24 : decode cX5_weight 24 = .ok (.bipush 16, 2) := by decide +kernel
theorem dX5_weight_26 : decode cX5_weight 26 = .ok (.iload_n 1, 1) := by decide +kernel
theorem dX5_weight_27 : decode cX5_weight 27 = .ok (.isub, 1) := by decide +kernel
theorem dX5_weight_28 : decode cX5_weight 28 = .ok (.i2l, 1) := by decide +kernel
theorem dX5_weight_29 : decode cX5_weight 29 = .ok (.goto 5, 3) := by decide +kernel
theorem dX5_weight_32 : decode cX5_weight 32 = .ok (.iload_n 1, 1) := by decide +kernel
theorem dX5_weight_33 : decode cX5_weight 33 = .ok (.i2l, 1) := by decide +kernel
theorem dX5_weight_34 : decode cX5_weight 34 = .ok (.lmul, 1) := by decide +kernel
theorem dX5_weight_35 : decode cX5_weight 35 = .ok (.lstore_n 3, 1) := by decide +kernel
theorem dX5_weight_36 : decode cX5_weight 36 = .ok (.iinc 5 1, 3) := by decide +kernel
theorem dX5_weight_39 : decode cX5_weight 39 = .ok (.goto (-34), 3) := by decide +kernel
theorem dX5_weight_42 : decode cX5_weight 42 = .ok (.lload_n 3, 1) := by decide +kernel
theorem dX5_weight_43 : decode cX5_weight 43 = .ok (.lreturn, 1) := by decide +kernel
theorem dX5_found_0 : decode cX5_found 0 = .ok (.aload_n 0, 1) := by decide +kernel
theorem dX5_found_1 : decode cX5_found 1 = .ok (.iload_n 1, 1) := by decide +kernel
theorem dX5_found_2 : decode cX5_found 2 = .ok (.putfield 60, 3) := by decide +kernel
theorem dX5_found_5 : decode cX5_found 5 = .ok (.bipush (-10), 2) := by decide +kernel
theorem dX5_found_7 : decode cX5_found 7 = .ok (.iload_n 1, 1) := by decide +kernel
theorem dX5_found_8 : decode cX5_found 8 = .ok (.isub, 1) := by decide +kernel
theorem dX5_found_9 : decode cX5_found 9 = .ok (.ireturn, 1) := by decide +kernel
theorem dX5_refusalOf_0 : decode cX5_refusalOf 0 = .ok (.iload_n 1, 1) := by decide +kernel
theorem dX5_refusalOf_1 : decode cX5_refusalOf 1 = .ok (.iconst 4, 1) := by decide +kernel
theorem dX5_refusalOf_2 : decode cX5_refusalOf 2 = .ok (.invokestatic 187, 3) := by decide +kernel
theorem dX5_refusalOf_5 : decode cX5_refusalOf 5 = .ok (.ifCond .eq 11, 3) := by decide +kernel
theorem dX5_refusalOf_8 : decode cX5_refusalOf 8 = .ok (.iload_n 2, 1) := by decide +kernel
theorem dX5_refusalOf_9 : decode cX5_refusalOf 9 = .ok (.iconst 3, 1) := by decide +kernel
theorem dX5_refusalOf_10 : decode cX5_refusalOf 10 = .ok (.invokestatic 187, 3) := by decide +kernel
theorem dX5_refusalOf_13 : decode cX5_refusalOf 13 = .ok (.ifCond .ne 6, 3) := by decide +kernel
theorem dX5_refusalOf_16 : decode cX5_refusalOf 16 = .ok (.bipush (-2), 2) := by decide +kernel
theorem dX5_refusalOf_18 : decode cX5_refusalOf 18 = .ok (.ireturn, 1) := by decide +kernel
theorem dX5_refusalOf_19 : decode cX5_refusalOf 19 = .ok (.aload_n 0, 1) := by decide +kernel
theorem dX5_refusalOf_20 : decode cX5_refusalOf 20 = .ok (.getfield 49, 3) := by decide +kernel
theorem dX5_refusalOf_23 : decode cX5_refusalOf 23 = .ok (.iload_n 1, 1) := by decide +kernel
theorem dX5_refusalOf_24 : decode cX5_refusalOf 24 = .ok (.aaload, 1) := by decide +kernel
theorem dX5_refusalOf_25 : decode cX5_refusalOf 25 = .ok (.getfield 224, 3) := by decide +kernel
theorem dX5_refusalOf_28 : decode cX5_refusalOf 28 = .ok (.iconst (-1), 1) := by decide +kernel
theorem dX5_refusalOf_29 : decode cX5_refusalOf 29 = .ok (.if_icmp .ne 9, 3) := by decide +kernel
theorem dX5_refusalOf_32 : decode cX5_refusalOf 32 = .ok (.aload_n 0, 1) := by decide +kernel
theorem dX5_refusalOf_33 : decode cX5_refusalOf 33 = .ok (.iconst 1, 1) := by decide +kernel
theorem dX5_refusalOf_34 : decode cX5_refusalOf 34 = .ok (.invokevirtual 227, 3) := by decide +kernel
theorem dX5_refusalOf_37 : decode cX5_refusalOf 37 = .ok (.ireturn, 1) := by decide +kernel
theorem dX5_refusalOf_38 : decode cX5_refusalOf 38 = .ok (.aload_n 0, 1) := by decide +kernel
theorem dX5_refusalOf_39 : decode cX5_refusalOf 39 = .ok (.getfield 49, 3) := by decide +kernel
theorem dX5_refusalOf_42 : decode cX5_refusalOf 42 = .ok (.iload_n 1, 1) := by decide +kernel
theorem dX5_refusalOf_43 : decode cX5_refusalOf 43 = .ok (.aaload, 1) := by decide +kernel
theorem dX5_refusalOf_44 : decode cX5_refusalOf 44 = .ok (.getfield 224, 3) := by decide +kernel
theorem dX5_refusalOf_47 : decode cX5_refusalOf 47 = .ok (.iload_n 2, 1) := by decide +kernel
theorem dX5_refusalOf_48 : decode cX5_refusalOf 48 = .ok (.if_icmp .eq 9, 3) := by decide +kernel
theorem dX5_refusalOf_51 : decode cX5_refusalOf 51 = .ok (.aload_n 0, 1) := by decide +kernel
theorem dX5_refusalOf_52 : decode cX5_refusalOf 52 = .ok (.iconst 3, 1) := by decide +kernel
theorem dX5_refusalOf_53 : decode cX5_refusalOf 53 = .ok (.invokevirtual 227, 3) := by decide +kernel
theorem dX5_refusalOf_56 : decode cX5_refusalOf 56 = .ok (.ireturn, 1) := by decide +kernel
theorem dX5_refusalOf_57 : decode cX5_refusalOf 57 = .ok (.iload_n 3, 1) := by decide +kernel
theorem dX5_refusalOf_58 : decode cX5_refusalOf 58 = .ok (.aload_n 0, 1) := by decide +kernel
theorem dX5_refusalOf_59 : decode cX5_refusalOf 59 = .ok (.getfield 49, 3) := by decide +kernel
theorem dX5_refusalOf_62 : decode cX5_refusalOf 62 = .ok (.iload_n 1, 1) := by decide +kernel
theorem dX5_refusalOf_63 : decode cX5_refusalOf 63 = .ok (.aaload, 1) := by decide +kernel
theorem dX5_refusalOf_64 : decode cX5_refusalOf 64 = .ok (.getfield 230, 3) := by decide +kernel
theorem dX5_refusalOf_67 : decode cX5_refusalOf 67 = .ok (.invokestatic 187, 3) := by decide +kernel
theorem dX5_refusalOf_70 : decode cX5_refusalOf 70 = .ok (.ifCond .eq 7, 3) := by decide +kernel
theorem dX5_refusalOf_73 : decode cX5_refusalOf 73 = .ok (.iconst 0, 1) := by decide +kernel
theorem dX5_refusalOf_74 : decode cX5_refusalOf 74 = .ok (.goto 8, 3) := by decide +kernel
theorem dX5_refusalOf_77 : decode cX5_refusalOf 77 = .ok (.aload_n 0, 1) := by decide +kernel
theorem dX5_refusalOf_78 : decode cX5_refusalOf 78 = .ok (.iconst 2, 1) := by decide +kernel
theorem dX5_refusalOf_79 : decode cX5_refusalOf 79 = .ok (.invokevirtual 227, 3) := by decide +kernel
theorem dX5_refusalOf_82 : decode cX5_refusalOf 82 = .ok (.ireturn, 1) := by decide +kernel
theorem dX5_mix_0 : decode cX5_mix 0 = .ok (.ldc2_w 348, 3) := by decide +kernel
theorem dX5_mix_3 : decode cX5_mix 3 = .ok (.lload_n 0, 1) := by decide +kernel
theorem dX5_mix_4 : decode cX5_mix 4 = .ok (.lmul, 1) := by decide +kernel
theorem dX5_mix_5 : decode cX5_mix 5 = .ok (.lload_n 2, 1) := by decide +kernel
theorem dX5_mix_6 : decode cX5_mix 6 = .ok (.ladd, 1) := by decide +kernel
theorem dX5_mix_7 : decode cX5_mix 7 = .ok (.lreturn, 1) := by decide +kernel
theorem dX5_mixDaysOf_0 : decode cX5_mixDaysOf 0 = .ok (.lload_n 1, 1) := by decide +kernel
theorem dX5_mixDaysOf_1 : decode cX5_mixDaysOf 1 = .ok (.lstore 4, 2) := by decide +kernel
theorem dX5_mixDaysOf_3 : decode cX5_mixDaysOf 3 = .ok (.iconst 0, 1) := by decide +kernel
theorem dX5_mixDaysOf_4 : decode cX5_mixDaysOf 4 = .ok (.istore 6, 2) := by decide +kernel
theorem dX5_mixDaysOf_6 : decode cX5_mixDaysOf 6 = .ok (.iload 6, 2) := by decide +kernel
theorem dX5_mixDaysOf_8 : decode cX5_mixDaysOf 8 = .ok (.iconst 4, 1) := by decide +kernel
theorem dX5_mixDaysOf_9 : decode cX5_mixDaysOf 9 = .ok (.if_icmp .ge 24, 3) := by decide +kernel
theorem dX5_mixDaysOf_12 : decode cX5_mixDaysOf 12 = .ok (.lload 4, 2) := by decide +kernel
theorem dX5_mixDaysOf_14 : decode cX5_mixDaysOf 14 = .ok (.aload_n 0, 1) := by decide +kernel
theorem dX5_mixDaysOf_15 : decode cX5_mixDaysOf 15 = .ok (.iload_n 3, 1) := by decide +kernel
theorem dX5_mixDaysOf_16 : decode cX5_mixDaysOf 16 = .ok (.iload 6, 2) := by decide +kernel
theorem dX5_mixDaysOf_18 : decode cX5_mixDaysOf 18 = .ok (.invokevirtual 350, 3) := by decide +kernel
theorem dX5_mixDaysOf_21 : decode cX5_mixDaysOf 21 = .ok (.i2l, 1) := by decide +kernel
theorem dX5_mixDaysOf_22 : decode cX5_mixDaysOf 22 = .ok (.invokestatic 294, 3) := by decide +kernel
theorem dX5_mixDaysOf_25 : decode cX5_mixDaysOf 25 = .ok (.lstore 4, 2) := by decide +kernel
theorem dX5_mixDaysOf_27 : decode cX5_mixDaysOf 27 = .ok (.iinc 6 1, 3) := by decide +kernel
theorem dX5_mixDaysOf_30 : decode cX5_mixDaysOf 30 = .ok (.goto (-24), 3) := by decide +kernel
theorem dX5_mixDaysOf_33 : decode cX5_mixDaysOf 33 = .ok (.lload 4, 2) := by decide +kernel
theorem dX5_mixDaysOf_35 : decode cX5_mixDaysOf 35 = .ok (.aload_n 0, 1) := by decide +kernel
theorem dX5_mixDaysOf_36 : decode cX5_mixDaysOf 36 = .ok (.bipush 9, 2) := by decide +kernel
theorem dX5_mixDaysOf_38 : decode cX5_mixDaysOf 38 = .ok (.iload_n 3, 1) := by decide +kernel
theorem dX5_mixDaysOf_39 : decode cX5_mixDaysOf 39 = .ok (.invokevirtual 353, 3) := by decide +kernel
theorem dX5_mixDaysOf_42 : decode cX5_mixDaysOf 42 = .ok (.i2l, 1) := by decide +kernel
theorem dX5_mixDaysOf_43 : decode cX5_mixDaysOf 43 = .ok (.invokestatic 294, 3) := by decide +kernel
theorem dX5_mixDaysOf_46 : decode cX5_mixDaysOf 46 = .ok (.aload_n 0, 1) := by decide +kernel
theorem dX5_mixDaysOf_47 : decode cX5_mixDaysOf 47 = .ok (.bipush 29, 2) := by decide +kernel
theorem dX5_mixDaysOf_49 : decode cX5_mixDaysOf 49 = .ok (.iload_n 3, 1) := by decide +kernel
theorem dX5_mixDaysOf_50 : decode cX5_mixDaysOf 50 = .ok (.invokevirtual 353, 3) := by decide +kernel
theorem dX5_mixDaysOf_53 : decode cX5_mixDaysOf 53 = .ok (.i2l, 1) := by decide +kernel
theorem dX5_mixDaysOf_54 : decode cX5_mixDaysOf 54 = .ok (.invokestatic 294, 3) := by decide +kernel
theorem dX5_mixDaysOf_57 : decode cX5_mixDaysOf 57 = .ok (.lstore 4, 2) := by decide +kernel
theorem dX5_mixDaysOf_59 : decode cX5_mixDaysOf 59 = .ok (.lload 4, 2) := by decide +kernel
theorem dX5_mixDaysOf_61 : decode cX5_mixDaysOf 61 = .ok (.aload_n 0, 1) := by decide +kernel
theorem dX5_mixDaysOf_62 : decode cX5_mixDaysOf 62 = .ok (.bipush 9, 2) := by decide +kernel
theorem dX5_mixDaysOf_64 : decode cX5_mixDaysOf 64 = .ok (.iload_n 3, 1) := by decide +kernel
theorem dX5_mixDaysOf_65 : decode cX5_mixDaysOf 65 = .ok (.invokevirtual 356, 3) := by decide +kernel
theorem dX5_mixDaysOf_68 : decode cX5_mixDaysOf 68 = .ok (.i2l, 1) := by decide +kernel
theorem dX5_mixDaysOf_69 : decode cX5_mixDaysOf 69 = .ok (.invokestatic 294, 3) := by decide +kernel
theorem dX5_mixDaysOf_72 : decode cX5_mixDaysOf 72 = .ok (.lstore 4, 2) := by decide +kernel
theorem dX5_mixDaysOf_74 : decode cX5_mixDaysOf 74 = .ok (.lload 4, 2) := by decide +kernel
theorem dX5_mixDaysOf_76 : decode cX5_mixDaysOf 76 = .ok (.aload_n 0, 1) := by decide +kernel
theorem dX5_mixDaysOf_77 : decode cX5_mixDaysOf 77 = .ok (.bipush 9, 2) := by decide +kernel
theorem dX5_mixDaysOf_79 : decode cX5_mixDaysOf 79 = .ok (.iload_n 3, 1) := by decide +kernel
theorem dX5_mixDaysOf_80 : decode cX5_mixDaysOf 80 = .ok (.invokevirtual 359, 3) := by decide +kernel
theorem dX5_mixDaysOf_83 : decode cX5_mixDaysOf 83 = .ok (.i2l, 1) := by decide +kernel
theorem dX5_mixDaysOf_84 : decode cX5_mixDaysOf 84 = .ok (.invokestatic 294, 3) := by decide +kernel
theorem dX5_mixDaysOf_87 : decode cX5_mixDaysOf 87 = .ok (.aload_n 0, 1) := by decide +kernel
theorem dX5_mixDaysOf_88 : decode cX5_mixDaysOf 88 = .ok (.bipush 29, 2) := by decide +kernel
theorem dX5_mixDaysOf_90 : decode cX5_mixDaysOf 90 = .ok (.iload_n 3, 1) := by decide +kernel
theorem dX5_mixDaysOf_91 : decode cX5_mixDaysOf 91 = .ok (.invokevirtual 359, 3) := by decide +kernel
theorem dX5_mixDaysOf_94 : decode cX5_mixDaysOf 94 = .ok (.i2l, 1) := by decide +kernel
theorem dX5_mixDaysOf_95 : decode cX5_mixDaysOf 95 = .ok (.invokestatic 294, 3) := by decide +kernel
theorem dX5_mixDaysOf_98 : decode cX5_mixDaysOf 98 = .ok (.lreturn, 1) := by decide +kernel
theorem dX5_mixPlansOf_0 : decode cX5_mixPlansOf 0 = .ok (.lload_n 1, 1) := by decide +kernel
theorem dX5_mixPlansOf_1 : decode cX5_mixPlansOf 1 = .ok (.aload_n 0, 1) := by decide +kernel
theorem dX5_mixPlansOf_2 : decode cX5_mixPlansOf 2 = .ok (.iload_n 3, 1) := by decide +kernel
theorem dX5_mixPlansOf_3 : decode cX5_mixPlansOf 3 = .ok (.iconst 0, 1) := by decide +kernel
theorem dX5_mixPlansOf_4 : decode cX5_mixPlansOf 4 = .ok (.invokevirtual 362, 3) := by decide +kernel
theorem dX5_mixPlansOf_7 : decode cX5_mixPlansOf 7 = .ok (.i2l, 1) := by decide +kernel
theorem dX5_mixPlansOf_8 : decode cX5_mixPlansOf 8 = .ok (.invokestatic 294, 3) := by decide +kernel
theorem dX5_mixPlansOf_11 : decode cX5_mixPlansOf 11 = .ok (.aload_n 0, 1) := by decide +kernel
theorem dX5_mixPlansOf_12 : decode cX5_mixPlansOf 12 = .ok (.iload_n 3, 1) := by decide +kernel
theorem dX5_mixPlansOf_13 : decode cX5_mixPlansOf 13 = .ok (.iconst 1, 1) := by decide +kernel
theorem dX5_mixPlansOf_14 : decode cX5_mixPlansOf 14 = .ok (.invokevirtual 362, 3) := by decide +kernel
theorem dX5_mixPlansOf_17 : decode cX5_mixPlansOf 17 = .ok (.i2l, 1) := by decide +kernel
theorem dX5_mixPlansOf_18 : decode cX5_mixPlansOf 18 = .ok (.invokestatic 294, 3) := by decide +kernel
theorem dX5_mixPlansOf_21 : decode cX5_mixPlansOf 21 = .ok (.lstore 4, 2) := by decide +kernel
theorem dX5_mixPlansOf_23 : decode cX5_mixPlansOf 23 = .ok (.lload 4, 2) := by decide +kernel
theorem dX5_mixPlansOf_25 : decode cX5_mixPlansOf 25 = .ok (.aload_n 0, 1) := by decide +kernel
theorem dX5_mixPlansOf_26 : decode cX5_mixPlansOf 26 = .ok (.iload_n 3, 1) := by decide +kernel
theorem dX5_mixPlansOf_27 : decode cX5_mixPlansOf 27 = .ok (.iconst (-1), 1) := by decide +kernel
theorem dX5_mixPlansOf_28 : decode cX5_mixPlansOf 28 = .ok (.invokevirtual 365, 3) := by decide +kernel
theorem dX5_mixPlansOf_31 : decode cX5_mixPlansOf 31 = .ok (.i2l, 1) := by decide +kernel
theorem dX5_mixPlansOf_32 : decode cX5_mixPlansOf 32 = .ok (.invokestatic 294, 3) := by decide +kernel
theorem dX5_mixPlansOf_35 : decode cX5_mixPlansOf 35 = .ok (.aload_n 0, 1) := by decide +kernel
theorem dX5_mixPlansOf_36 : decode cX5_mixPlansOf 36 = .ok (.iload_n 3, 1) := by decide +kernel
theorem dX5_mixPlansOf_37 : decode cX5_mixPlansOf 37 = .ok (.iconst 0, 1) := by decide +kernel
theorem dX5_mixPlansOf_38 : decode cX5_mixPlansOf 38 = .ok (.invokevirtual 365, 3) := by decide +kernel
theorem dX5_mixPlansOf_41 : decode cX5_mixPlansOf 41 = .ok (.i2l, 1) := by decide +kernel
theorem dX5_mixPlansOf_42 : decode cX5_mixPlansOf 42 = .ok (.invokestatic 294, 3) := by decide +kernel
theorem dX5_mixPlansOf_45 : decode cX5_mixPlansOf 45 = .ok (.lstore 4, 2) := by decide +kernel
theorem dX5_mixPlansOf_47 : decode cX5_mixPlansOf 47 = .ok (.lload 4, 2) := by decide +kernel
theorem dX5_mixPlansOf_49 : decode cX5_mixPlansOf 49 = .ok (.aload_n 0, 1) := by decide +kernel
theorem dX5_mixPlansOf_50 : decode cX5_mixPlansOf 50 = .ok (.iload_n 3, 1) := by decide +kernel
theorem dX5_mixPlansOf_51 : decode cX5_mixPlansOf 51 = .ok (.iconst 0, 1) := by decide +kernel
theorem dX5_mixPlansOf_52 : decode cX5_mixPlansOf 52 = .ok (.invokevirtual 368, 3) := by decide +kernel
theorem dX5_mixPlansOf_55 : decode cX5_mixPlansOf 55 = .ok (.i2l, 1) := by decide +kernel
theorem dX5_mixPlansOf_56 : decode cX5_mixPlansOf 56 = .ok (.invokestatic 294, 3) := by decide +kernel
theorem dX5_mixPlansOf_59 : decode cX5_mixPlansOf 59 = .ok (.aload_n 0, 1) := by decide +kernel
theorem dX5_mixPlansOf_60 : decode cX5_mixPlansOf 60 = .ok (.iload_n 3, 1) := by decide +kernel
theorem dX5_mixPlansOf_61 : decode cX5_mixPlansOf 61 = .ok (.iconst 1, 1) := by decide +kernel
theorem dX5_mixPlansOf_62 : decode cX5_mixPlansOf 62 = .ok (.invokevirtual 368, 3) := by decide +kernel
theorem dX5_mixPlansOf_65 : decode cX5_mixPlansOf 65 = .ok (.i2l, 1) := by decide +kernel
theorem dX5_mixPlansOf_66 : decode cX5_mixPlansOf 66 = .ok (.invokestatic 294, 3) := by decide +kernel
theorem dX5_mixPlansOf_69 : decode cX5_mixPlansOf 69 = .ok (.lstore 4, 2) := by decide +kernel
theorem dX5_mixPlansOf_71 : decode cX5_mixPlansOf 71 = .ok (.lload 4, 2) := by decide +kernel
theorem dX5_mixPlansOf_73 : decode cX5_mixPlansOf 73 = .ok (.aload_n 0, 1) := by decide +kernel
theorem dX5_mixPlansOf_74 : decode cX5_mixPlansOf 74 = .ok (.iconst 5, 1) := by decide +kernel
theorem dX5_mixPlansOf_75 : decode cX5_mixPlansOf 75 = .ok (.iload_n 3, 1) := by decide +kernel
theorem dX5_mixPlansOf_76 : decode cX5_mixPlansOf 76 = .ok (.bipush 20, 2) := by decide +kernel
theorem dX5_mixPlansOf_78 : decode cX5_mixPlansOf 78 = .ok (.iconst 0, 1) := by decide +kernel
theorem dX5_mixPlansOf_79 : decode cX5_mixPlansOf 79 = .ok (.invokevirtual 371, 3) := by decide +kernel
theorem dX5_mixPlansOf_82 : decode cX5_mixPlansOf 82 = .ok (.invokestatic 294, 3) := by decide +kernel
theorem dX5_mixPlansOf_85 : decode cX5_mixPlansOf 85 = .ok (.aload_n 0, 1) := by decide +kernel
theorem dX5_mixPlansOf_86 : decode cX5_mixPlansOf 86 = .ok (.iconst 5, 1) := by decide +kernel
theorem dX5_mixPlansOf_87 : decode cX5_mixPlansOf 87 = .ok (.iload_n 3, 1) := by decide +kernel
theorem dX5_mixPlansOf_88 : decode cX5_mixPlansOf 88 = .ok (.bipush 20, 2) := by decide +kernel
theorem dX5_mixPlansOf_90 : decode cX5_mixPlansOf 90 = .ok (.iconst 1, 1) := by decide +kernel
theorem dX5_mixPlansOf_91 : decode cX5_mixPlansOf 91 = .ok (.invokevirtual 371, 3) := by decide +kernel
theorem dX5_mixPlansOf_94 : decode cX5_mixPlansOf 94 = .ok (.invokestatic 294, 3) := by decide +kernel
theorem dX5_mixPlansOf_97 : decode cX5_mixPlansOf 97 = .ok (.lreturn, 1) := by decide +kernel
theorem dX5_mixInn_0 : decode cX5_mixInn 0 = .ok (.lload_n 1, 1) := by decide +kernel
theorem dX5_mixInn_1 : decode cX5_mixInn 1 = .ok (.aload_n 0, 1) := by decide +kernel
theorem dX5_mixInn_2 : decode cX5_mixInn 2 = .ok (.iload_n 3, 1) := by decide +kernel
theorem dX5_mixInn_3 : decode cX5_mixInn 3 = .ok (.iconst 0, 1) := by decide +kernel
theorem dX5_mixInn_4 : decode cX5_mixInn 4 = .ok (.invokevirtual 375, 3) := by decide +kernel
theorem dX5_mixInn_7 : decode cX5_mixInn 7 = .ok (.i2l, 1) := by decide +kernel
theorem dX5_mixInn_8 : decode cX5_mixInn 8 = .ok (.invokestatic 294, 3) := by decide +kernel
theorem dX5_mixInn_11 : decode cX5_mixInn 11 = .ok (.aload_n 0, 1) := by decide +kernel
theorem dX5_mixInn_12 : decode cX5_mixInn 12 = .ok (.iload_n 3, 1) := by decide +kernel
theorem dX5_mixInn_13 : decode cX5_mixInn 13 = .ok (.iconst 1, 1) := by decide +kernel
theorem dX5_mixInn_14 : decode cX5_mixInn 14 = .ok (.invokevirtual 375, 3) := by decide +kernel
theorem dX5_mixInn_17 : decode cX5_mixInn 17 = .ok (.i2l, 1) := by decide +kernel
theorem dX5_mixInn_18 : decode cX5_mixInn 18 = .ok (.invokestatic 294, 3) := by decide +kernel
theorem dX5_mixInn_21 : decode cX5_mixInn 21 = .ok (.lstore 4, 2) := by decide +kernel
theorem dX5_mixInn_23 : decode cX5_mixInn 23 = .ok (.lload 4, 2) := by decide +kernel
theorem dX5_mixInn_25 : decode cX5_mixInn 25 = .ok (.aload_n 0, 1) := by decide +kernel
theorem dX5_mixInn_26 : decode cX5_mixInn 26 = .ok (.bipush 9, 2) := by decide +kernel
theorem dX5_mixInn_28 : decode cX5_mixInn 28 = .ok (.iload_n 3, 1) := by decide +kernel
theorem dX5_mixInn_29 : decode cX5_mixInn 29 = .ok (.iconst 0, 1) := by decide +kernel
theorem dX5_mixInn_30 : decode cX5_mixInn 30 = .ok (.invokevirtual 378, 3) := by decide +kernel
theorem dX5_mixInn_33 : decode cX5_mixInn 33 = .ok (.i2l, 1) := by decide +kernel
theorem dX5_mixInn_34 : decode cX5_mixInn 34 = .ok (.invokestatic 294, 3) := by decide +kernel
theorem dX5_mixInn_37 : decode cX5_mixInn 37 = .ok (.aload_n 0, 1) := by decide +kernel
theorem dX5_mixInn_38 : decode cX5_mixInn 38 = .ok (.bipush 9, 2) := by decide +kernel
theorem dX5_mixInn_40 : decode cX5_mixInn 40 = .ok (.iload_n 3, 1) := by decide +kernel
theorem dX5_mixInn_41 : decode cX5_mixInn 41 = .ok (.iconst 1, 1) := by decide +kernel
theorem dX5_mixInn_42 : decode cX5_mixInn 42 = .ok (.invokevirtual 378, 3) := by decide +kernel
theorem dX5_mixInn_45 : decode cX5_mixInn 45 = .ok (.i2l, 1) := by decide +kernel
theorem dX5_mixInn_46 : decode cX5_mixInn 46 = .ok (.invokestatic 294, 3) := by decide +kernel
theorem dX5_mixInn_49 : decode cX5_mixInn 49 = .ok (.lstore 4, 2) := by decide +kernel
theorem dX5_mixInn_51 : decode cX5_mixInn 51 = .ok (.lload 4, 2) := by decide +kernel
theorem dX5_mixInn_53 : decode cX5_mixInn 53 = .ok (.aload_n 0, 1) := by decide +kernel
theorem dX5_mixInn_54 : decode cX5_mixInn 54 = .ok (.bipush 29, 2) := by decide +kernel
theorem dX5_mixInn_56 : decode cX5_mixInn 56 = .ok (.iload_n 3, 1) := by decide +kernel
theorem dX5_mixInn_57 : decode cX5_mixInn 57 = .ok (.iconst 0, 1) := by decide +kernel
theorem dX5_mixInn_58 : decode cX5_mixInn 58 = .ok (.invokevirtual 378, 3) := by decide +kernel
theorem dX5_mixInn_61 : decode cX5_mixInn 61 = .ok (.i2l, 1) := by decide +kernel
theorem dX5_mixInn_62 : decode cX5_mixInn 62 = .ok (.invokestatic 294, 3) := by decide +kernel
theorem dX5_mixInn_65 : decode cX5_mixInn 65 = .ok (.aload_n 0, 1) := by decide +kernel
theorem dX5_mixInn_66 : decode cX5_mixInn 66 = .ok (.bipush 29, 2) := by decide +kernel
theorem dX5_mixInn_68 : decode cX5_mixInn 68 = .ok (.iload_n 3, 1) := by decide +kernel
theorem dX5_mixInn_69 : decode cX5_mixInn 69 = .ok (.iconst 1, 1) := by decide +kernel
theorem dX5_mixInn_70 : decode cX5_mixInn 70 = .ok (.invokevirtual 378, 3) := by decide +kernel
theorem dX5_mixInn_73 : decode cX5_mixInn 73 = .ok (.i2l, 1) := by decide +kernel
theorem dX5_mixInn_74 : decode cX5_mixInn 74 = .ok (.invokestatic 294, 3) := by decide +kernel
theorem dX5_mixInn_77 : decode cX5_mixInn 77 = .ok (.lstore 4, 2) := by decide +kernel
theorem dX5_mixInn_79 : decode cX5_mixInn 79 = .ok (.lload 4, 2) := by decide +kernel
theorem dX5_mixInn_81 : decode cX5_mixInn 81 = .ok (.aload_n 0, 1) := by decide +kernel
theorem dX5_mixInn_82 : decode cX5_mixInn 82 = .ok (.iload_n 3, 1) := by decide +kernel
theorem dX5_mixInn_83 : decode cX5_mixInn 83 = .ok (.iconst 0, 1) := by decide +kernel
theorem dX5_mixInn_84 : decode cX5_mixInn 84 = .ok (.invokevirtual 381, 3) := by decide +kernel
theorem dX5_mixInn_87 : decode cX5_mixInn 87 = .ok (.i2l, 1) := by decide +kernel
theorem dX5_mixInn_88 : decode cX5_mixInn 88 = .ok (.invokestatic 294, 3) := by decide +kernel
theorem dX5_mixInn_91 : decode cX5_mixInn 91 = .ok (.aload_n 0, 1) := by decide +kernel
theorem dX5_mixInn_92 : decode cX5_mixInn 92 = .ok (.iload_n 3, 1) := by decide +kernel
theorem dX5_mixInn_93 : decode cX5_mixInn 93 = .ok (.iconst 1, 1) := by decide +kernel
theorem dX5_mixInn_94 : decode cX5_mixInn 94 = .ok (.invokevirtual 381, 3) := by decide +kernel
theorem dX5_mixInn_97 : decode cX5_mixInn 97 = .ok (.i2l, 1) := by decide +kernel
theorem dX5_mixInn_98 : decode cX5_mixInn 98 = .ok (.invokestatic 294, 3) := by decide +kernel
theorem dX5_mixInn_101 : decode cX5_mixInn 101 = .ok (.lstore 4, 2) := by decide +kernel
theorem dX5_mixInn_103 : decode cX5_mixInn 103 = .ok (.lload 4, 2) := by decide +kernel
theorem dX5_mixInn_105 : decode cX5_mixInn 105 = .ok (.aload_n 0, 1) := by decide +kernel
theorem dX5_mixInn_106 : decode cX5_mixInn 106 = .ok (.bipush 7, 2) := by decide +kernel
theorem dX5_mixInn_108 : decode cX5_mixInn 108 = .ok (.iload_n 3, 1) := by decide +kernel
theorem dX5_mixInn_109 : decode cX5_mixInn 109 = .ok (.invokevirtual 326, 3) := by decide +kernel
theorem dX5_mixInn_112 : decode cX5_mixInn 112 = .ok (.i2l, 1) := by decide +kernel
theorem dX5_mixInn_113 : decode cX5_mixInn 113 = .ok (.invokestatic 294, 3) := by decide +kernel
theorem dX5_mixInn_116 : decode cX5_mixInn 116 = .ok (.lreturn, 1) := by decide +kernel
theorem dX5_mixShip_0 : decode cX5_mixShip 0 = .ok (.lload_n 1, 1) := by decide +kernel
theorem dX5_mixShip_1 : decode cX5_mixShip 1 = .ok (.lstore 4, 2) := by decide +kernel
theorem dX5_mixShip_3 : decode cX5_mixShip 3 = .ok (.iconst 0, 1) := by decide +kernel
theorem dX5_mixShip_4 : decode cX5_mixShip 4 = .ok (.istore 6, 2) := by decide +kernel
theorem dX5_mixShip_6 : decode cX5_mixShip 6 = .ok (.iload 6, 2) := by decide +kernel
theorem dX5_mixShip_8 : decode cX5_mixShip 8 = .ok (.iconst 4, 1) := by decide +kernel
theorem dX5_mixShip_9 : decode cX5_mixShip 9 = .ok (.if_icmp .ge 24, 3) := by decide +kernel
theorem dX5_mixShip_12 : decode cX5_mixShip 12 = .ok (.lload 4, 2) := by decide +kernel
theorem dX5_mixShip_14 : decode cX5_mixShip 14 = .ok (.aload_n 0, 1) := by decide +kernel
theorem dX5_mixShip_15 : decode cX5_mixShip 15 = .ok (.iload_n 3, 1) := by decide +kernel
theorem dX5_mixShip_16 : decode cX5_mixShip 16 = .ok (.iload 6, 2) := by decide +kernel
theorem dX5_mixShip_18 : decode cX5_mixShip 18 = .ok (.invokevirtual 384, 3) := by decide +kernel
theorem dX5_mixShip_21 : decode cX5_mixShip 21 = .ok (.i2l, 1) := by decide +kernel
theorem dX5_mixShip_22 : decode cX5_mixShip 22 = .ok (.invokestatic 294, 3) := by decide +kernel
theorem dX5_mixShip_25 : decode cX5_mixShip 25 = .ok (.lstore 4, 2) := by decide +kernel
theorem dX5_mixShip_27 : decode cX5_mixShip 27 = .ok (.iinc 6 1, 3) := by decide +kernel
theorem dX5_mixShip_30 : decode cX5_mixShip 30 = .ok (.goto (-24), 3) := by decide +kernel
theorem dX5_mixShip_33 : decode cX5_mixShip 33 = .ok (.iconst 0, 1) := by decide +kernel
theorem dX5_mixShip_34 : decode cX5_mixShip 34 = .ok (.istore 6, 2) := by decide +kernel
theorem dX5_mixShip_36 : decode cX5_mixShip 36 = .ok (.iload 6, 2) := by decide +kernel
theorem dX5_mixShip_38 : decode cX5_mixShip 38 = .ok (.iconst 5, 1) := by decide +kernel
theorem dX5_mixShip_39 : decode cX5_mixShip 39 = .ok (.if_icmp .ge 24, 3) := by decide +kernel
theorem dX5_mixShip_42 : decode cX5_mixShip 42 = .ok (.lload 4, 2) := by decide +kernel
theorem dX5_mixShip_44 : decode cX5_mixShip 44 = .ok (.aload_n 0, 1) := by decide +kernel
theorem dX5_mixShip_45 : decode cX5_mixShip 45 = .ok (.iload_n 3, 1) := by decide +kernel
theorem dX5_mixShip_46 : decode cX5_mixShip 46 = .ok (.iload 6, 2) := by decide +kernel
theorem dX5_mixShip_48 : decode cX5_mixShip 48 = .ok (.invokevirtual 387, 3) := by decide +kernel
theorem dX5_mixShip_51 : decode cX5_mixShip 51 = .ok (.i2l, 1) := by decide +kernel
theorem dX5_mixShip_52 : decode cX5_mixShip 52 = .ok (.invokestatic 294, 3) := by decide +kernel
theorem dX5_mixShip_55 : decode cX5_mixShip 55 = .ok (.lstore 4, 2) := by decide +kernel
theorem dX5_mixShip_57 : decode cX5_mixShip 57 = .ok (.iinc 6 1, 3) := by decide +kernel
theorem dX5_mixShip_60 : decode cX5_mixShip 60 = .ok (.goto (-24), 3) := by decide +kernel
theorem dX5_mixShip_63 : decode cX5_mixShip 63 = .ok (.lload 4, 2) := by decide +kernel
theorem dX5_mixShip_65 : decode cX5_mixShip 65 = .ok (.aload_n 0, 1) := by decide +kernel
theorem dX5_mixShip_66 : decode cX5_mixShip 66 = .ok (.iload_n 3, 1) := by decide +kernel
theorem dX5_mixShip_67 : decode cX5_mixShip 67 = .ok (.invokevirtual 390, 3) := by decide +kernel
theorem dX5_mixShip_70 : decode cX5_mixShip 70 = .ok (.i2l, 1) := by decide +kernel
theorem dX5_mixShip_71 : decode cX5_mixShip 71 = .ok (.invokestatic 294, 3) := by decide +kernel
theorem dX5_mixShip_74 : decode cX5_mixShip 74 = .ok (.lreturn, 1) := by decide +kernel
