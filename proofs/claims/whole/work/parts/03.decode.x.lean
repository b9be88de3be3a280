theorem dX0_init_0 : decode cX0_init 0 = .ok (.aload_n 0, 1) := by decide +kernel
theorem dX0_init_1 : decode cX0_init 1 = .ok (.invokespecial 3, 3) := by decide +kernel
theorem dX0_init_4 : decode cX0_init 4 = .ok (.aload_n 0, 1) := by decide +kernel
theorem dX0_init_5 : decode cX0_init 5 = .ok (.new 9, 3) := by decide +kernel
theorem dX0_init_8 : decode cX0_init 8 = .ok (.dup, 1) := by decide +kernel
theorem dX0_init_9 : decode cX0_init 9 = .ok (.invokespecial 11, 3) := by decide +kernel
theorem dX0_init_12 : decode cX0_init 12 = .ok (.putfield 12, 3) := by decide +kernel
theorem dX0_init_15 : decode cX0_init 15 = .ok (.aload_n 0, 1) := by decide +kernel
theorem dX0_init_16 : decode cX0_init 16 = .ok (.bipush 8, 2) := by decide +kernel
theorem dX0_init_18 : decode cX0_init 18 = .ok (.newarray .int, 2) := by decide +kernel
theorem dX0_init_20 : decode cX0_init 20 = .ok (.putfield 18, 3) := by decide +kernel
theorem dX0_init_23 : decode cX0_init 23 = .ok (.aload_n 0, 1) := by decide +kernel
theorem dX0_init_24 : decode cX0_init 24 = .ok (.bipush 8, 2) := by decide +kernel
theorem dX0_init_26 : decode cX0_init 26 = .ok (.newarray .int, 2) := by decide +kernel
theorem dX0_init_28 : decode cX0_init 28 = .ok (.putfield 22, 3) := by decide +kernel
theorem dX0_init_31 : decode cX0_init 31 = .ok (.aload_n 0, 1) := by decide +kernel
theorem dX0_init_32 : decode cX0_init 32 = .ok (.bipush 8, 2) := by decide +kernel
theorem dX0_init_34 : decode cX0_init 34 = .ok (.newarray .int, 2) := by decide +kernel
theorem dX0_init_36 : decode cX0_init 36 = .ok (.putfield 25, 3) := by decide +kernel
theorem dX0_init_39 : decode cX0_init 39 = .ok (.aload_n 0, 1) := by decide +kernel
theorem dX0_init_40 : decode cX0_init 40 = .ok (.bipush 8, 2) := by decide +kernel
theorem dX0_init_42 : decode cX0_init 42 = .ok (.newarray .int, 2) := by decide +kernel
theorem dX0_init_44 : decode cX0_init 44 = .ok (.putfield 28, 3) := by decide +kernel
theorem dX0_init_47 : decode cX0_init 47 = .ok (.aload_n 0, 1) := by decide +kernel
theorem dX0_init_48 : decode cX0_init 48 = .ok (.bipush 8, 2) := by decide +kernel
theorem dX0_init_50 : decode cX0_init 50 = .ok (.newarray .int, 2) := by decide +kernel
theorem dX0_init_52 : decode cX0_init 52 = .ok (.putfield 31, 3) := by decide +kernel
theorem dX0_init_55 : decode cX0_init 55 = .ok (.aload_n 0, 1) := by decide +kernel
theorem dX0_init_56 : decode cX0_init 56 = .ok (.bipush 8, 2) := by decide +kernel
theorem dX0_init_58 : decode cX0_init 58 = .ok (.newarray .int, 2) := by decide +kernel
theorem dX0_init_60 : decode cX0_init 60 = .ok (.putfield 34, 3) := by decide +kernel
theorem dX0_init_63 : decode cX0_init 63 = .ok (.aload_n 0, 1) := by decide +kernel
theorem dX0_init_64 : decode cX0_init 64 = .ok (.bipush 6, 2) := by decide +kernel
theorem dX0_init_66 : decode cX0_init 66 = .ok (.newarray .int, 2) := by decide +kernel
theorem dX0_init_68 : decode cX0_init 68 = .ok (.putfield 37, 3) := by decide +kernel
theorem dX0_init_71 : decode cX0_init 71 = .ok (.aload_n 0, 1) := by decide +kernel
theorem dX0_init_72 : decode cX0_init 72 = .ok (.bipush 6, 2) := by decide +kernel
theorem dX0_init_74 : decode cX0_init 74 = .ok (.newarray .int, 2) := by decide +kernel
theorem dX0_init_76 : decode cX0_init 76 = .ok (.putfield 40, 3) := by decide +kernel
theorem dX0_init_79 : decode cX0_init 79 = .ok (.aload_n 0, 1) := by decide +kernel
theorem dX0_init_80 : decode cX0_init 80 = .ok (.bipush 6, 2) := by decide +kernel
theorem dX0_init_82 : decode cX0_init 82 = .ok (.newarray .int, 2) := by decide +kernel
theorem dX0_init_84 : decode cX0_init 84 = .ok (.putfield 43, 3) := by decide +kernel
theorem dX0_init_87 : decode cX0_init 87 = .ok (.aload_n 0, 1) := by decide +kernel
theorem dX0_init_88 : decode cX0_init 88 = .ok (.sipush 240, 3) := by decide +kernel
theorem dX0_init_91 : decode cX0_init 91 = .ok (.newarray .int, 2) := by decide +kernel
theorem dX0_init_93 : decode cX0_init 93 = .ok (.putfield 46, 3) := by decide +kernel
theorem dX0_init_96 : decode cX0_init 96 = .ok (.aload_n 0, 1) := by decide +kernel
theorem dX0_init_97 : decode cX0_init 97 = .ok (.sipush 240, 3) := by decide +kernel
theorem dX0_init_100 : decode cX0_init 100 = .ok (.newarray .int, 2) := by decide +kernel
theorem dX0_init_102 : decode cX0_init 102 = .ok (.putfield 49, 3) := by decide +kernel
theorem dX0_init_105 : decode cX0_init 105 = .ok (.aload_n 0, 1) := by decide +kernel
theorem dX0_init_106 : decode cX0_init 106 = .ok (.sipush 240, 3) := by decide +kernel
theorem dX0_init_109 : decode cX0_init 109 = .ok (.newarray .int, 2) := by decide +kernel
theorem dX0_init_111 : decode cX0_init 111 = .ok (.putfield 52, 3) := by decide +kernel
theorem dX0_init_114 : decode cX0_init 114 = .ok (.aload_n 0, 1) := by decide +kernel
theorem dX0_init_115 : decode cX0_init 115 = .ok (.sipush 240, 3) := by decide +kernel
theorem dX0_init_118 : decode cX0_init 118 = .ok (.newarray .int, 2) := by decide +kernel
theorem dX0_init_120 : decode cX0_init 120 = .ok (.putfield 55, 3) := by decide +kernel
theorem dX0_init_123 : decode cX0_init 123 = .ok (.aload_n 0, 1) := by decide +kernel
theorem dX0_init_124 : decode cX0_init 124 = .ok (.iconst (-1), 1) := by decide +kernel
theorem dX0_init_125 : decode cX0_init 125 = .ok (.putfield 58, 3) := by decide +kernel
theorem dX0_init_128 : decode cX0_init 128 = .ok (.return_, 1) := by decide +kernel
theorem dX0_run_0 : decode cX0_run 0 = .ok (.aload_n 0, 1) := by decide +kernel
theorem dX0_run_1 : decode cX0_run 1 = .ok (.invokevirtual 62, 3) := by decide +kernel
theorem dX0_run_4 : decode cX0_run 4 = .ok (.iconst 0, 1) := by decide +kernel
theorem dX0_run_5 : decode cX0_run 5 = .ok (.istore_n 1, 1) := by decide +kernel
theorem dX0_run_6 : decode cX0_run 6 = .ok (.iload_n 1, 1) := by decide +kernel
theorem dX0_run_7 : decode cX0_run 7 = .ok (.bipush 30, 2) := by decide +kernel
theorem dX0_run_9 : decode cX0_run 9 = .ok (.if_icmp .ge 142, 3) := by decide +kernel
theorem dX0_run_12 : decode cX0_run 12 = .ok (.iconst 0, 1) := by decide +kernel
theorem dX0_run_13 : decode cX0_run 13 = .ok (.istore_n 2, 1) := by decide +kernel
theorem dX0_run_14 : decode cX0_run 14 = .ok (.iload_n 2, 1) := by decide +kernel
theorem dX0_run_15 : decode cX0_run 15 = .ok (.aload_n 0, 1) := by decide +kernel
theorem dX0_run_16 : decode cX0_run 16 = .ok (.getfield 12, 3) := by decide +kernel
theorem dX0_run_19 : decode cX0_run 19 = .ok (.getfield 65, 3) := by decide +kernel
theorem dX0_run_22 : decode cX0_run 22 = .ok (.if_icmp .ge 27, 3) := by decide +kernel
theorem dX0_run_25 : decode cX0_run 25 = .ok (.aload_n 0, 1) := by decide +kernel
theorem dX0_run_26 : decode cX0_run 26 = .ok (.getfield 12, 3) := by decide +kernel
theorem dX0_run_29 : decode cX0_run 29 = .ok (.iload_n 2, 1) := by decide +kernel
theorem dX0_run_30 : decode cX0_run 30 = .ok (.iload_n 1, 1) := by decide +kernel
theorem dX0_run_31 : decode cX0_run 31 = .ok (.invokevirtual 68, 3) := by decide +kernel
theorem dX0_run_34 : decode cX0_run 34 = .ok (.ifCond .eq 9, 3) := by decide +kernel
theorem dX0_run_37 : decode cX0_run 37 = .ok (.aload_n 0, 1) := by decide +kernel
theorem dX0_run_38 : decode cX0_run 38 = .ok (.iload_n 2, 1) := by decide +kernel
theorem dX0_run_39 : decode cX0_run 39 = .ok (.iload_n 1, 1) := by decide +kernel
theorem dX0_run_40 : decode cX0_run 40 = .ok (.invokevirtual 72, 3) := by decide +kernel
theorem dX0_run_43 : decode cX0_run 43 = .ok (.iinc 2 1, 3) := by decide +kernel
theorem dX0_run_46 : decode cX0_run 46 = .ok (.goto (-32), 3) := by decide +kernel
theorem dX0_run_49 : decode cX0_run 49 = .ok (.iconst 0, 1) := by decide +kernel
theorem dX0_run_50 : decode cX0_run 50 = .ok (.istore_n 2, 1) := by decide +kernel
theorem dX0_run_51 : decode cX0_run 51 = .ok (.iload_n 2, 1) := by decide +kernel
theorem dX0_run_52 : decode cX0_run 52 = .ok (.aload_n 0, 1) := by decide +kernel
theorem dX0_run_53 : decode cX0_run 53 = .ok (.getfield 12, 3) := by decide +kernel
theorem dX0_run_56 : decode cX0_run 56 = .ok (.getfield 76, 3) := by decide +kernel
theorem dX0_run_59 : decode cX0_run 59 = .ok (.if_icmp .ge 14, 3) := by decide +kernel
theorem dX0_run_62 : decode cX0_run 62 = .ok (.aload_n 0, 1) := by decide +kernel
theorem dX0_run_63 : decode cX0_run 63 = .ok (.iload_n 2, 1) := by decide +kernel
theorem dX0_run_64 : decode cX0_run 64 = .ok (.invokevirtual 79, 3) := by decide +kernel
theorem dX0_run_67 : decode cX0_run 67 = .ok (.iinc 2 1, 3) := by decide +kernel
theorem dX0_run_70 : decode cX0_run 70 = .ok (.goto (-19), 3) := by decide +kernel
theorem dX0_run_73 : decode cX0_run 73 = .ok (.aload_n 0, 1) := by decide +kernel
theorem dX0_run_74 : decode cX0_run 74 = .ok (.getfield 18, 3) := by decide +kernel
theorem dX0_run_77 : decode cX0_run 77 = .ok (.iconst 0, 1) := by decide +kernel
theorem dX0_run_78 : decode cX0_run 78 = .ok (.aload_n 0, 1) := by decide +kernel
theorem dX0_run_79 : decode cX0_run 79 = .ok (.getfield 46, 3) := by decide +kernel
theorem dX0_run_82 : decode cX0_run 82 = .ok (.iload_n 1, 1) := by decide +kernel
theorem dX0_run_83 : decode cX0_run 83 = .ok (.bipush 8, 2) := by decide +kernel
theorem dX0_run_85 : decode cX0_run 85 = .ok (.imul, 1) := by decide +kernel
theorem dX0_run_86 : decode cX0_run 86 = .ok (.bipush 8, 2) := by decide +kernel
theorem dX0_run_88 : decode cX0_run 88 = .ok (.invokestatic 83, 3) := by decide +kernel
theorem dX0_run_91 : decode cX0_run 91 = .ok (.aload_n 0, 1) := by decide +kernel
theorem dX0_run_92 : decode cX0_run 92 = .ok (.getfield 22, 3) := by decide +kernel
theorem dX0_run_95 : decode cX0_run 95 = .ok (.iconst 0, 1) := by decide +kernel
theorem dX0_run_96 : decode cX0_run 96 = .ok (.aload_n 0, 1) := by decide +kernel
theorem dX0_run_97 : decode cX0_run 97 = .ok (.getfield 49, 3) := by decide +kernel
theorem dX0_run_100 : decode cX0_run 100 = .ok (.iload_n 1, 1) := by decide +kernel
theorem dX0_run_101 : decode cX0_run 101 = .ok (.bipush 8, 2) := by decide +kernel
theorem dX0_run_103 : decode cX0_run 103 = .ok (.imul, 1) := by decide +kernel
theorem dX0_run_104 : decode cX0_run 104 = .ok (.bipush 8, 2) := by decide +kernel
theorem dX0_run_106 : decode cX0_run 106 = .ok (.invokestatic 83, 3) := by decide +kernel
theorem dX0_run_109 : decode cX0_run 109 = .ok (.aload_n 0, 1) := by decide +kernel
theorem dX0_run_110 : decode cX0_run 110 = .ok (.getfield 25, 3) := by decide +kernel
theorem dX0_run_113 : decode cX0_run 113 = .ok (.iconst 0, 1) := by decide +kernel
theorem dX0_run_114 : decode cX0_run 114 = .ok (.aload_n 0, 1) := by decide +kernel
theorem dX0_run_115 : decode cX0_run 115 = .ok (.getfield 52, 3) := by decide +kernel
theorem dX0_run_118 : decode cX0_run 118 = .ok (.iload_n 1, 1) := by decide +kernel
theorem dX0_run_119 : decode cX0_run 119 = .ok (.bipush 8, 2) := by decide +kernel
theorem dX0_run_121 : decode cX0_run 121 = .ok (.imul, 1) := by decide +kernel
theorem dX0_run_122 : decode cX0_run 122 = .ok (.bipush 8, 2) := by decide +kernel
theorem dX0_run_124 : decode cX0_run 124 = .ok (.invokestatic 83, 3) := by decide +kernel
theorem dX0_run_127 : decode cX0_run 127 = .ok (.aload_n 0, 1) := by decide +kernel
theorem dX0_run_128 : decode cX0_run 128 = .ok (.getfield 31, 3) := by decide +kernel
theorem dX0_run_131 : decode cX0_run 131 = .ok (.iconst 0, 1) := by decide +kernel
theorem dX0_run_132 : decode cX0_run 132 = .ok (.aload_n 0, 1) := by decide +kernel
theorem dX0_run_133 : decode cX0_run 133 = .ok (.getfield 55, 3) := by decide +kernel
theorem dX0_run_136 : decode cX0_run 136 = .ok (.iload_n 1, 1) := by decide +kernel
theorem dX0_run_137 : decode cX0_run 137 = .ok (.bipush 8, 2) := by decide +kernel
theorem dX0_run_139 : decode cX0_run 139 = .ok (.imul, 1) := by decide +kernel
theorem dX0_run_140 : decode cX0_run 140 = .ok (.bipush 8, 2) := by decide +kernel
theorem dX0_run_142 : decode cX0_run 142 = .ok (.invokestatic 83, 3) := by decide +kernel
theorem dX0_run_145 : decode cX0_run 145 = .ok (.iinc 1 1, 3) := by decide +kernel
theorem dX0_run_148 : decode cX0_run 148 = .ok (.goto (-142), 3) := by decide +kernel
theorem dX0_run_151 : decode cX0_run 151 = .ok (.return_, 1) := by decide +kernel
theorem dX0_begin_0 : decode cX0_begin 0 = .ok (.aload_n 0, 1) := by decide +kernel
theorem dX0_begin_1 : decode cX0_begin 1 = .ok (.iconst (-1), 1) := by decide +kernel
theorem dX0_begin_2 : decode cX0_begin 2 = .ok (.putfield 58, 3) := by decide +kernel
theorem dX0_begin_5 : decode cX0_begin 5 = .ok (.iconst 0, 1) := by decide +kernel
theorem dX0_begin_6 : decode cX0_begin 6 = .ok (.istore_n 1, 1) := by decide +kernel
theorem dX0_begin_7 : decode cX0_begin 7 = .ok (.iload_n 1, 1) := by decide +kernel
theorem dX0_begin_8 : decode cX0_begin 8 = .ok (.bipush 6, 2) := by decide +kernel
theorem dX0_begin_10 : decode cX0_begin 10 = .ok (.if_icmp .ge 30, 3) := by decide +kernel
theorem dX0_begin_13 : decode cX0_begin 13 = .ok (.aload_n 0, 1) := by decide +kernel
theorem dX0_begin_14 : decode cX0_begin 14 = .ok (.getfield 37, 3) := by decide +kernel
theorem dX0_begin_17 : decode cX0_begin 17 = .ok (.iload_n 1, 1) := by decide +kernel
theorem dX0_begin_18 : decode cX0_begin 18 = .ok (.iconst 0, 1) := by decide +kernel
theorem dX0_begin_19 : decode cX0_begin 19 = .ok (.iastore, 1) := by decide +kernel
theorem dX0_begin_20 : decode cX0_begin 20 = .ok (.aload_n 0, 1) := by decide +kernel
theorem dX0_begin_21 : decode cX0_begin 21 = .ok (.getfield 40, 3) := by decide +kernel
theorem dX0_begin_24 : decode cX0_begin 24 = .ok (.iload_n 1, 1) := by decide +kernel
theorem dX0_begin_25 : decode cX0_begin 25 = .ok (.iconst 0, 1) := by decide +kernel
theorem dX0_begin_26 : decode cX0_begin 26 = .ok (.iastore, 1) := by decide +kernel
theorem dX0_begin_27 : decode cX0_begin 27 = .ok (.aload_n 0, 1) := by decide +kernel
theorem dX0_begin_28 : decode cX0_begin 28 = .ok (.getfield 43, 3) := by decide +kernel
theorem dX0_begin_31 : decode cX0_begin 31 = .ok (.iload_n 1, 1) := by decide +kernel
theorem dX0_begin_32 : decode cX0_begin 32 = .ok (.iconst 0, 1) := by decide +kernel
theorem dX0_begin_33 : decode cX0_begin 33 = .ok (.iastore, 1) := by decide +kernel
theorem dX0_begin_34 : decode cX0_begin 34 = .ok (.iinc 1 1, 3) := by decide +kernel
theorem dX0_begin_37 : decode cX0_begin 37 = .ok (.goto (-30), 3) := by decide +kernel
theorem dX0_begin_40 : decode cX0_begin 40 = .ok (.iconst 0, 1) := by decide +kernel
theorem dX0_begin_41 : decode cX0_begin 41 = .ok (.istore_n 1, 1) := by decide +kernel
theorem dX0_begin_42 : decode cX0_begin 42 = .ok (.iload_n 1, 1) := by decide +kernel
theorem dX0_begin_43 : decode cX0_begin 43 = .ok (.bipush 8, 2) := by decide +kernel
theorem dX0_begin_45 : decode cX0_begin 45 = .ok (.if_icmp .ge 46, 3) := by decide +kernel
theorem dX0_begin_48 : decode cX0_begin 48 = .ok (.aload_n 0, 1) := by decide +kernel
theorem dX0_begin_49 : decode cX0_begin 49 = .ok (.getfield 31, 3) := by decide +kernel
theorem dX0_begin_52 : decode cX0_begin 52 = .ok (.iload_n 1, 1) := by decide +kernel
theorem dX0_begin_53 : decode cX0_begin 53 = .ok (.iconst 0, 1) := by decide +kernel
theorem dX0_begin_54 : decode cX0_begin 54 = .ok (.iastore, 1) := by decide +kernel
theorem dX0_begin_55 : decode cX0_begin 55 = .ok (.aload_n 0, 1) := by decide +kernel
theorem dX0_begin_56 : decode cX0_begin 56 = .ok (.getfield 34, 3) := by decide +kernel
theorem dX0_begin_59 : decode cX0_begin 59 = .ok (.iload_n 1, 1) := by decide +kernel
theorem dX0_begin_60 : decode cX0_begin 60 = .ok (.iload_n 1, 1) := by decide +kernel
theorem dX0_begin_61 : decode cX0_begin 61 = .ok (.aload_n 0, 1) := by decide +kernel
theorem dX0_begin_62 : decode cX0_begin 62 = .ok (.getfield 12, 3) := by decide +kernel
theorem dX0_begin_65 : decode cX0_begin 65 = .ok (.getfield 89, 3) := by decide +kernel
theorem dX0_begin_68 : decode cX0_begin 68 = .ok (.if_icmp .ge 15, 3) := by decide +kernel
theorem dX0_begin_71 : decode cX0_begin 71 = .ok (.aload_n 0, 1) := by decide +kernel
theorem dX0_begin_72 : decode cX0_begin 72 = .ok (.getfield 12, 3) := by decide +kernel
theorem dX0_begin_75 : decode cX0_begin 75 = .ok (.getfield 92, 3) := by decide +kernel
theorem dX0_begin_78 : decode cX0_begin 78 = .ok (.iload_n 1, 1) := by decide +kernel
theorem dX0_begin_79 : decode cX0_begin 79 = .ok (.iaload, 1) := by decide +kernel
theorem dX0_begin_80 : decode cX0_begin 80 = .ok (.goto 4, 3) := by decide +kernel
theorem dX0_begin_83 : decode cX0_begin 83 = .ok (.iconst 0, 1) := by decide +kernel
theorem dX0_begin_84 : decode cX0_begin 84 = .ok (.iastore, 1) := by decide +kernel
theorem dX0_begin_85 : decode cX0_begin 85 = .ok (.iinc 1 1, 3) := by decide +kernel
theorem dX0_begin_88 : decode cX0_begin 88 = .ok (.goto (-46), 3) := by decide +kernel
theorem dX0_begin_91 : decode cX0_begin 91 = .ok (.iconst 0, 1) := by decide +kernel
theorem dX0_begin_92 : decode cX0_begin 92 = .ok (.istore_n 1, 1) := by decide +kernel
theorem dX0_begin_93 : decode cX0_begin 93 = .ok (.iload_n 1, 1) := by decide +kernel
theorem dX0_begin_94 : decode cX0_begin 94 = .ok (.aload_n 0, 1) := by decide +kernel
theorem dX0_begin_95 : decode cX0_begin 95 = .ok (.getfield 12, 3) := by decide +kernel
theorem dX0_begin_98 : decode cX0_begin 98 = .ok (.getfield 76, 3) := by decide +kernel
theorem dX0_begin_101 : decode cX0_begin 101 = .ok (.if_icmp .ge 77, 3) := by decide +kernel
theorem dX0_begin_104 : decode cX0_begin 104 = .ok (.aload_n 0, 1) := by decide +kernel
theorem dX0_begin_105 : decode cX0_begin 105 = .ok (.getfield 18, 3) := by decide +kernel
theorem dX0_begin_108 : decode cX0_begin 108 = .ok (.iload_n 1, 1) := by decide +kernel
theorem dX0_begin_109 : decode cX0_begin 109 = .ok (.aload_n 0, 1) := by decide +kernel
theorem dX0_begin_110 : decode cX0_begin 110 = .ok (.getfield 12, 3) := by decide +kernel
theorem dX0_begin_113 : decode cX0_begin 113 = .ok (.getfield 95, 3) := by decide +kernel
theorem dX0_begin_116 : decode cX0_begin 116 = .ok (.iload_n 1, 1) := by decide +kernel
theorem dX0_begin_117 : decode cX0_begin 117 = .ok (.iaload, 1) := by decide +kernel
theorem dX0_begin_118 : decode cX0_begin 118 = .ok (.iconst 3, 1) := by decide +kernel
theorem dX0_begin_119 : decode cX0_begin 119 = .ok (.if_icmp .ne 7, 3) := by decide +kernel
theorem dX0_begin_122 : decode cX0_begin 122 = .ok (.iconst 1, 1) := by decide +kernel
theorem dX0_begin_123 : decode cX0_begin 123 = .ok (.goto 4, 3) := by decide +kernel
theorem dX0_begin_126 : decode cX0_begin 126 = .ok (.iconst 0, 1) := by decide +kernel
theorem dX0_begin_127 : decode cX0_begin 127 = .ok (.iastore, 1) := by decide +kernel
theorem dX0_begin_128 : decode cX0_begin 128 = .ok (.aload_n 0, 1) := by decide +kernel
theorem dX0_begin_129 : decode cX0_begin 129 = .ok (.getfield 22, 3) := by decide +kernel
theorem dX0_begin_132 : decode cX0_begin 132 = .ok (.iload_n 1, 1) := by decide +kernel
theorem dX0_begin_133 : decode cX0_begin 133 = .ok (.bipush 10, 2) := by decide +kernel
theorem dX0_begin_135 : decode cX0_begin 135 = .ok (.aload_n 0, 1) := by decide +kernel
theorem dX0_begin_136 : decode cX0_begin 136 = .ok (.getfield 12, 3) := by decide +kernel
theorem dX0_begin_139 : decode cX0_begin 139 = .ok (.getfield 98, 3) := by decide +kernel
theorem dX0_begin_142 : decode cX0_begin 142 = .ok (.iload_n 1, 1) := by decide +kernel
theorem dX0_begin_143 : decode cX0_begin 143 = .ok (.iaload, 1) := by decide +kernel
theorem dX0_begin_144 : decode cX0_begin 144 = .ok (.imul, 1) := by decide +kernel
theorem dX0_begin_145 : decode cX0_begin 145 = .ok (.iastore, 1) := by decide +kernel
theorem dX0_begin_146 : decode cX0_begin 146 = .ok (.aload_n 0, 1) := by decide +kernel
theorem dX0_begin_147 : decode cX0_begin 147 = .ok (.getfield 25, 3) := by decide +kernel
theorem dX0_begin_150 : decode cX0_begin 150 = .ok (.iload_n 1, 1) := by decide +kernel
theorem dX0_begin_151 : decode cX0_begin 151 = .ok (.aload_n 0, 1) := by decide +kernel
theorem dX0_begin_152 : decode cX0_begin 152 = .ok (.aload_n 0, 1) := by decide +kernel
theorem dX0_begin_153 : decode cX0_begin 153 = .ok (.getfield 12, 3) := by decide +kernel
theorem dX0_begin_156 : decode cX0_begin 156 = .ok (.getfield 101, 3) := by decide +kernel
theorem dX0_begin_159 : decode cX0_begin 159 = .ok (.iload_n 1, 1) := by decide +kernel
theorem dX0_begin_160 : decode cX0_begin 160 = .ok (.iaload, 1) := by decide +kernel
theorem dX0_begin_161 : decode cX0_begin 161 = .ok (.invokevirtual 104, 3) := by decide +kernel
theorem dX0_begin_164 : decode cX0_begin 164 = .ok (.iastore, 1) := by decide +kernel
theorem dX0_begin_165 : decode cX0_begin 165 = .ok (.aload_n 0, 1) := by decide +kernel
theorem dX0_begin_166 : decode cX0_begin 166 = .ok (.getfield 28, 3) := by decide +kernel
theorem dX0_begin_169 : decode cX0_begin 169 = .ok (.iload_n 1, 1) := by decide +kernel
theorem dX0_begin_170 : decode cX0_begin 170 = .ok (.iconst (-1), 1) := by decide +kernel
theorem dX0_begin_171 : decode cX0_begin 171 = .ok (.iastore, 1) := by decide +kernel
theorem dX0_begin_172 : decode cX0_begin 172 = .ok (.iinc 1 1, 3) := by decide +kernel
theorem dX0_begin_175 : decode cX0_begin 175 = .ok (.goto (-82), 3) := by decide +kernel
theorem dX0_begin_178 : decode cX0_begin 178 = .ok (.return_, 1) := by decide +kernel
theorem dX0_bedIn_0 : decode cX0_bedIn 0 = .ok (.iload_n 1, 1) := by decide +kernel
theorem dX0_bedIn_1 : decode cX0_bedIn 1 = .ok (.ifCond .lt 18, 3) := by decide +kernel
theorem dX0_bedIn_4 : decode cX0_bedIn 4 = .ok (.iload_n 1, 1) := by decide +kernel
theorem dX0_bedIn_5 : decode cX0_bedIn 5 = .ok (.bipush 8, 2) := by decide +kernel
theorem dX0_bedIn_7 : decode cX0_bedIn 7 = .ok (.if_icmp .ge 12, 3) := by decide +kernel
theorem dX0_bedIn_10 : decode cX0_bedIn 10 = .ok (.aload_n 0, 1) := by decide +kernel
theorem dX0_bedIn_11 : decode cX0_bedIn 11 = .ok (.getfield 34, 3) := by decide +kernel
theorem dX0_bedIn_14 : decode cX0_bedIn 14 = .ok (.iload_n 1, 1) := by decide +kernel
theorem dX0_bedIn_15 : decode cX0_bedIn 15 = .ok (.iaload, 1) := by decide +kernel
theorem dX0_bedIn_16 : decode cX0_bedIn 16 = .ok (.ifCond .gt 5, 3) := by decide +kernel
theorem dX0_bedIn_19 : decode cX0_bedIn 19 = .ok (.iconst (-1), 1) := by decide +kernel
theorem dX0_bedIn_20 : decode cX0_bedIn 20 = .ok (.ireturn, 1) := by decide +kernel
theorem dX0_bedIn_21 : decode cX0_bedIn 21 = .ok (.aload_n 0, 1) := by decide +kernel
theorem dX0_bedIn_22 : decode cX0_bedIn 22 = .ok (.getfield 34, 3) := by decide +kernel
theorem dX0_bedIn_25 : decode cX0_bedIn 25 = .ok (.iload_n 1, 1) := by decide +kernel
theorem dX0_bedIn_26 : decode cX0_bedIn 26 = .ok (.dup2, 1) := by decide +kernel
theorem dX0_bedIn_27 : decode cX0_bedIn 27 = .ok (.iaload, 1) := by decide +kernel
theorem dX0_bedIn_28 : decode cX0_bedIn 28 = .ok (.iconst 1, 1) := by decide +kernel
theorem dX0_bedIn_29 : decode cX0_bedIn 29 = .ok (.isub, 1) := by decide +kernel
theorem dX0_bedIn_30 : decode cX0_bedIn 30 = .ok (.iastore, 1) := by decide +kernel
theorem dX0_bedIn_31 : decode cX0_bedIn 31 = .ok (.iload_n 1, 1) := by decide +kernel
theorem dX0_bedIn_32 : decode cX0_bedIn 32 = .ok (.ireturn, 1) := by decide +kernel
theorem dX0_depart_0 : decode cX0_depart 0 = .ok (.iconst 0, 1) := by decide +kernel
theorem dX0_depart_1 : decode cX0_depart 1 = .ok (.istore_n 3, 1) := by decide +kernel
theorem dX0_depart_2 : decode cX0_depart 2 = .ok (.iload_n 3, 1) := by decide +kernel
theorem dX0_depart_3 : decode cX0_depart 3 = .ok (.bipush 8, 2) := by decide +kernel
theorem dX0_depart_5 : decode cX0_depart 5 = .ok (.if_icmp .ge 105, 3) := by decide +kernel
theorem dX0_depart_8 : decode cX0_depart 8 = .ok (.iload_n 3, 1) := by decide +kernel
theorem dX0_depart_9 : decode cX0_depart 9 = .ok (.aload_n 0, 1) := by decide +kernel
theorem dX0_depart_10 : decode cX0_depart 10 = .ok (.getfield 12, 3) := by decide +kernel
theorem dX0_depart_13 : decode cX0_depart 13 = .ok (.getfield 108, 3) := by decide +kernel
theorem dX0_depart_16 : decode cX0_depart 16 = .ok (.iload_n 1, 1) := by decide +kernel
theorem dX0_depart_17 : decode cX0_depart 17 = .ok (.iaload, 1) := by decide +kernel
theorem dX0_depart_18 : decode cX0_depart 18 = .ok (.if_icmp .ge 92, 3) := by decide +kernel
theorem dX0_depart_21 : decode cX0_depart 21 = .ok (.aload_n 0, 1) := by decide +kernel
theorem dX0_depart_22 : decode cX0_depart 22 = .ok (.aload_n 0, 1) := by decide +kernel
theorem dX0_depart_23 : decode cX0_depart 23 = .ok (.getfield 37, 3) := by decide +kernel
theorem dX0_depart_26 : decode cX0_depart 26 = .ok (.iload_n 1, 1) := by decide +kernel
theorem dX0_depart_27 : decode cX0_depart 27 = .ok (.iaload, 1) := by decide +kernel
theorem dX0_depart_28 : decode cX0_depart 28 = .ok (.invokevirtual 111, 3) := by decide +kernel
theorem dX0_depart_31 : decode cX0_depart 31 = .ok (.istore 4, 2) := by decide +kernel
theorem dX0_depart_33 : decode cX0_depart 33 = .ok (.iload 4, 2) := by decide +kernel
theorem dX0_depart_35 : decode cX0_depart 35 = .ok (.iconst (-1), 1) := by decide +kernel
theorem dX0_depart_36 : decode cX0_depart 36 = .ok (.if_icmp .ne 6, 3) := by decide +kernel
theorem dX0_depart_39 : decode cX0_depart 39 = .ok (.goto 71, 3) := by decide +kernel
theorem dX0_depart_42 : decode cX0_depart 42 = .ok (.aload_n 0, 1) := by decide +kernel
theorem dX0_depart_43 : decode cX0_depart 43 = .ok (.getfield 37, 3) := by decide +kernel
theorem dX0_depart_46 : decode cX0_depart 46 = .ok (.iload_n 1, 1) := by decide +kernel
theorem dX0_depart_47 : decode cX0_depart 47 = .ok (.dup2, 1) := by decide +kernel
theorem dX0_depart_48 : decode cX0_depart 48 = .ok (.iaload, 1) := by decide +kernel
theorem dX0_depart_49 : decode cX0_depart 49 = .ok (.iconst 1, 1) := by decide +kernel
theorem dX0_depart_50 : decode cX0_depart 50 = .ok (.iload 4, 2) := by decide +kernel
theorem dX0_depart_52 : decode cX0_depart 52 = .ok (.ishl, 1) := by decide +kernel
theorem dX0_depart_53 : decode cX0_depart 53 = .ok (.ior, 1) := by decide +kernel
theorem dX0_depart_54 : decode cX0_depart 54 = .ok (.iastore, 1) := by decide +kernel
theorem dX0_depart_55 : decode cX0_depart 55 = .ok (.iload_n 3, 1) := by decide +kernel
theorem dX0_depart_56 : decode cX0_depart 56 = .ok (.aload_n 0, 1) := by decide +kernel
theorem dX0_depart_57 : decode cX0_depart 57 = .ok (.getfield 12, 3) := by decide +kernel
theorem dX0_depart_60 : decode cX0_depart 60 = .ok (.getfield 114, 3) := by decide +kernel
theorem dX0_depart_63 : decode cX0_depart 63 = .ok (.iload_n 1, 1) := by decide +kernel
theorem dX0_depart_64 : decode cX0_depart 64 = .ok (.iaload, 1) := by decide +kernel
theorem dX0_depart_65 : decode cX0_depart 65 = .ok (.if_icmp .ge 31, 3) := by decide +kernel
theorem dX0_depart_68 : decode cX0_depart 68 = .ok (.aload_n 0, 1) := by decide +kernel
theorem dX0_depart_69 : decode cX0_depart 69 = .ok (.getfield 12, 3) := by decide +kernel
theorem dX0_depart_72 : decode cX0_depart 72 = .ok (.iload 4, 2) := by decide +kernel
theorem dX0_depart_74 : decode cX0_depart 74 = .ok (.invokevirtual 117, 3) := by decide +kernel
theorem dX0_depart_77 : decode cX0_depart 77 = .ok (.ifCond .ne 19, 3) := by decide +kernel
theorem dX0_depart_80 : decode cX0_depart 80 = .ok (.aload_n 0, 1) := by decide +kernel
theorem dX0_depart_81 : decode cX0_depart 81 = .ok (.getfield 40, 3) := by decide +kernel
theorem dX0_depart_84 : decode cX0_depart 84 = .ok (.iload_n 1, 1) := by decide +kernel
theorem dX0_depart_85 : decode cX0_depart 85 = .ok (.dup2, 1) := by decide +kernel
theorem dX0_depart_86 : decode cX0_depart 86 = .ok (.iaload, 1) := by decide +kernel
theorem dX0_depart_87 : decode cX0_depart 87 = .ok (.iconst 1, 1) := by decide +kernel
theorem dX0_depart_88 : decode cX0_depart 88 = .ok (.iload 4, 2) := by decide +kernel
theorem dX0_depart_90 : decode cX0_depart 90 = .ok (.ishl, 1) := by decide +kernel
theorem dX0_depart_91 : decode cX0_depart 91 = .ok (.ior, 1) := by decide +kernel
theorem dX0_depart_92 : decode cX0_depart 92 = .ok (.iastore, 1) := by decide +kernel
theorem dX0_depart_93 : decode cX0_depart 93 = .ok (.goto 11, 3) := by decide +kernel
theorem dX0_depart_96 : decode cX0_depart 96 = .ok (.aload_n 0, 1) := by decide +kernel
theorem dX0_depart_97 : decode cX0_depart 97 = .ok (.iload 4, 2) := by decide +kernel
theorem dX0_depart_99 : decode cX0_depart 99 = .ok (.iload_n 1, 1) := by decide +kernel
theorem dX0_depart_100 : decode cX0_depart 100 = .ok (.iload_n 2, 1) := by decide +kernel
theorem dX0_depart_101 : decode cX0_depart 101 = .ok (.invokevirtual 121, 3) := by decide +kernel
theorem dX0_depart_104 : decode cX0_depart 104 = .ok (.iinc 3 1, 3) := by decide +kernel
theorem dX0_depart_107 : decode cX0_depart 107 = .ok (.goto (-105), 3) := by decide +kernel
theorem dX0_depart_110 : decode cX0_depart 110 = .ok (.aload_n 0, 1) := by decide +kernel
theorem dX0_depart_111 : decode cX0_depart 111 = .ok (.getfield 43, 3) := by decide +kernel
theorem dX0_depart_114 : decode cX0_depart 114 = .ok (.iload_n 1, 1) := by decide +kernel
theorem dX0_depart_115 : decode cX0_depart 115 = .ok (.iaload, 1) := by decide +kernel
theorem dX0_depart_116 : decode cX0_depart 116 = .ok (.ifCond .eq 19, 3) := by decide +kernel
theorem dX0_depart_119 : decode cX0_depart 119 = .ok (.aload_n 0, 1) := by decide +kernel
theorem dX0_depart_120 : decode cX0_depart 120 = .ok (.bipush 31, 2) := by decide +kernel
theorem dX0_depart_122 : decode cX0_depart 122 = .ok (.aload_n 0, 1) := by decide +kernel
theorem dX0_depart_123 : decode cX0_depart 123 = .ok (.getfield 43, 3) := by decide +kernel
theorem dX0_depart_126 : decode cX0_depart 126 = .ok (.iload_n 1, 1) := by decide +kernel
theorem dX0_depart_127 : decode cX0_depart 127 = .ok (.iaload, 1) := by decide +kernel
theorem dX0_depart_128 : decode cX0_depart 128 = .ok (.invokestatic 125, 3) := by decide +kernel
theorem dX0_depart_131 : decode cX0_depart 131 = .ok (.isub, 1) := by decide +kernel
theorem dX0_depart_132 : decode cX0_depart 132 = .ok (.putfield 58, 3) := by decide +kernel
theorem dX0_depart_135 : decode cX0_depart 135 = .ok (.return_, 1) := by decide +kernel
theorem dX0_deepestInDebt_0 : decode cX0_deepestInDebt 0 = .ok (.iconst (-1), 1) := by decide +kernel
theorem dX0_deepestInDebt_1 : decode cX0_deepestInDebt 1 = .ok (.istore_n 2, 1) := by decide +kernel
theorem dX0_deepestInDebt_2 : decode cX0_deepestInDebt 2 = .ok (.iconst 0, 1) := by decide +kernel
theorem dX0_deepestInDebt_3 : decode cX0_deepestInDebt 3 = .ok (.istore_n 3, 1) := by decide +kernel
theorem dX0_deepestInDebt_4 : decode cX0_deepestInDebt 4 = .ok (.iconst 0, 1) := by decide +kernel
theorem dX0_deepestInDebt_5 : decode cX0_deepestInDebt 5 = .ok (.istore 4, 2) := by decide +kernel
theorem dX0_deepestInDebt_7 : decode cX0_deepestInDebt 7 = .ok (.iload 4, 2) := by decide +kernel
theorem dX0_deepestInDebt_9 : decode cX0_deepestInDebt 9 = .ok (.aload_n 0, 1) := by decide +kernel
theorem dX0_deepestInDebt_10 : decode cX0_deepestInDebt 10 = .ok (.getfield 12, 3) := by decide +kernel
theorem dX0_deepestInDebt_13 : decode cX0_deepestInDebt 13 = .ok (.getfield 76, 3) := by decide +kernel
theorem dX0_deepestInDebt_16 : decode cX0_deepestInDebt 16 = .ok (.if_icmp .ge 65, 3) := by decide +kernel
theorem dX0_deepestInDebt_19 : decode cX0_deepestInDebt 19 = .ok (.aload_n 0, 1) := by decide +kernel
theorem dX0_deepestInDebt_20 : decode cX0_deepestInDebt 20 = .ok (.getfield 25, 3) := by decide +kernel
theorem dX0_deepestInDebt_23 : decode cX0_deepestInDebt 23 = .ok (.iload 4, 2) := by decide +kernel
theorem dX0_deepestInDebt_25 : decode cX0_deepestInDebt 25 = .ok (.iaload, 1) := by decide +kernel
theorem dX0_deepestInDebt_26 : decode cX0_deepestInDebt 26 = .ok (.invokestatic 130, 3) := by decide +kernel
theorem dX0_deepestInDebt_29 : decode cX0_deepestInDebt 29 = .ok (.ifCond .eq 16, 3) := by decide +kernel
theorem dX0_deepestInDebt_32 : decode cX0_deepestInDebt 32 = .ok (.iload_n 1, 1) := by decide +kernel
theorem dX0_deepestInDebt_33 : decode cX0_deepestInDebt 33 = .ok (.iload 4, 2) := by decide +kernel
theorem dX0_deepestInDebt_35 : decode cX0_deepestInDebt 35 = .ok (.ishr, 1) := by decide +kernel
theorem dX0_deepestInDebt_36 : decode cX0_deepestInDebt 36 = .ok (.iconst 1, 1) := by decide +kernel
theorem dX0_deepestInDebt_37 : decode cX0_deepestInDebt 37 = .ok (.iand, 1) := by decide +kernel
theorem dX0_deepestInDebt_38 : decode cX0_deepestInDebt 38 = .ok (.ifCond .ne 7, 3) := by decide +kernel
theorem dX0_deepestInDebt_41 : decode cX0_deepestInDebt 41 = .ok (.iconst 1, 1) := by decide +kernel
theorem dX0_deepestInDebt_42 : decode cX0_deepestInDebt 42 = .ok (.goto 4, 3) := by decide +kernel
theorem dX0_deepestInDebt_45 : decode cX0_deepestInDebt 45 = .ok (.iconst 0, 1) := by decide +kernel
theorem dX0_deepestInDebt_46 : decode cX0_deepestInDebt 46 = .ok (.istore 5, 2) := by decide +kernel
theorem dX0_deepestInDebt_48 : decode cX0_deepestInDebt 48 = .ok (.iload 5, 2) := by decide +kernel
theorem dX0_deepestInDebt_50 : decode cX0_deepestInDebt 50 = .ok (.ifCond .eq 25, 3) := by decide +kernel
theorem dX0_deepestInDebt_53 : decode cX0_deepestInDebt 53 = .ok (.aload_n 0, 1) := by decide +kernel
theorem dX0_deepestInDebt_54 : decode cX0_deepestInDebt 54 = .ok (.getfield 18, 3) := by decide +kernel
theorem dX0_deepestInDebt_57 : decode cX0_deepestInDebt 57 = .ok (.iload 4, 2) := by decide +kernel
theorem dX0_deepestInDebt_59 : decode cX0_deepestInDebt 59 = .ok (.iaload, 1) := by decide +kernel
theorem dX0_deepestInDebt_60 : decode cX0_deepestInDebt 60 = .ok (.iload_n 3, 1) := by decide +kernel
theorem dX0_deepestInDebt_61 : decode cX0_deepestInDebt 61 = .ok (.if_icmp .le 14, 3) := by decide +kernel
theorem dX0_deepestInDebt_64 : decode cX0_deepestInDebt 64 = .ok (.iload 4, 2) := by decide +kernel
theorem dX0_deepestInDebt_66 : decode cX0_deepestInDebt 66 = .ok (.istore_n 2, 1) := by decide +kernel
theorem dX0_deepestInDebt_67 : decode cX0_deepestInDebt 67 = .ok (.aload_n 0, 1) := by decide +kernel
theorem dX0_deepestInDebt_68 : decode cX0_deepestInDebt 68 = .ok (.getfield 18, 3) := by decide +kernel
theorem dX0_deepestInDebt_71 : decode cX0_deepestInDebt 71 = .ok (.iload 4, 2) := by decide +kernel
theorem dX0_deepestInDebt_73 : decode cX0_deepestInDebt 73 = .ok (.iaload, 1) := by decide +kernel
theorem dX0_deepestInDebt_74 : decode cX0_deepestInDebt 74 = .ok (.istore_n 3, 1) := by decide +kernel
theorem dX0_deepestInDebt_75 : decode cX0_deepestInDebt 75 = .ok (.iinc 4 1, 3) := by decide +kernel
theorem dX0_deepestInDebt_78 : decode cX0_deepestInDebt 78 = .ok (.goto (-71), 3) := by decide +kernel
theorem dX0_deepestInDebt_81 : decode cX0_deepestInDebt 81 = .ok (.iload_n 2, 1) := by decide +kernel
theorem dX0_deepestInDebt_82 : decode cX0_deepestInDebt 82 = .ok (.ireturn, 1) := by decide +kernel
theorem dX0_board_0 : decode cX0_board 0 = .ok (.aload_n 0, 1) := by decide +kernel
theorem dX0_board_1 : decode cX0_board 1 = .ok (.getfield 25, 3) := by decide +kernel
theorem dX0_board_4 : decode cX0_board 4 = .ok (.iload_n 1, 1) := by decide +kernel
theorem dX0_board_5 : decode cX0_board 5 = .ok (.iaload, 1) := by decide +kernel
theorem dX0_board_6 : decode cX0_board 6 = .ok (.invokestatic 130, 3) := by decide +kernel
theorem dX0_board_9 : decode cX0_board 9 = .ok (.ifCond .eq 39, 3) := by decide +kernel
theorem dX0_board_12 : decode cX0_board 12 = .ok (.aload_n 0, 1) := by decide +kernel
theorem dX0_board_13 : decode cX0_board 13 = .ok (.getfield 31, 3) := by decide +kernel
theorem dX0_board_16 : decode cX0_board 16 = .ok (.aload_n 0, 1) := by decide +kernel
theorem dX0_board_17 : decode cX0_board 17 = .ok (.getfield 25, 3) := by decide +kernel
theorem dX0_board_20 : decode cX0_board 20 = .ok (.iload_n 1, 1) := by decide +kernel
theorem dX0_board_21 : decode cX0_board 21 = .ok (.iaload, 1) := by decide +kernel
theorem dX0_board_22 : decode cX0_board 22 = .ok (.dup2, 1) := by decide +kernel
theorem dX0_board_23 : decode cX0_board 23 = .ok (.iaload, 1) := by decide +kernel
theorem dX0_board_24 : decode cX0_board 24 = .ok (.bipush 10, 2) := by decide +kernel
theorem dX0_board_26 : decode cX0_board 26 = .ok (.aload_n 0, 1) := by decide +kernel
theorem dX0_board_27 : decode cX0_board 27 = .ok (.getfield 12, 3) := by decide +kernel
theorem dX0_board_30 : decode cX0_board 30 = .ok (.getfield 133, 3) := by decide +kernel
theorem dX0_board_33 : decode cX0_board 33 = .ok (.iload_n 2, 1) := by decide +kernel
theorem dX0_board_34 : decode cX0_board 34 = .ok (.iaload, 1) := by decide +kernel
theorem dX0_board_35 : decode cX0_board 35 = .ok (.aload_n 0, 1) := by decide +kernel
theorem dX0_board_36 : decode cX0_board 36 = .ok (.getfield 12, 3) := by decide +kernel
theorem dX0_board_39 : decode cX0_board 39 = .ok (.getfield 136, 3) := by decide +kernel
theorem dX0_board_42 : decode cX0_board 42 = .ok (.invokestatic 139, 3) := by decide +kernel
theorem dX0_board_45 : decode cX0_board 45 = .ok (.imul, 1) := by decide +kernel
theorem dX0_board_46 : decode cX0_board 46 = .ok (.iadd, 1) := by decide +kernel
theorem dX0_board_47 : decode cX0_board 47 = .ok (.iastore, 1) := by decide +kernel
theorem dX0_board_48 : decode cX0_board 48 = .ok (.aload_n 0, 1) := by decide +kernel
theorem dX0_board_49 : decode cX0_board 49 = .ok (.getfield 43, 3) := by decide +kernel
theorem dX0_board_52 : decode cX0_board 52 = .ok (.iload_n 2, 1) := by decide +kernel
theorem dX0_board_53 : decode cX0_board 53 = .ok (.dup2, 1) := by decide +kernel
theorem dX0_board_54 : decode cX0_board 54 = .ok (.iaload, 1) := by decide +kernel
theorem dX0_board_55 : decode cX0_board 55 = .ok (.iconst 1, 1) := by decide +kernel
theorem dX0_board_56 : decode cX0_board 56 = .ok (.iload_n 1, 1) := by decide +kernel
theorem dX0_board_57 : decode cX0_board 57 = .ok (.ishl, 1) := by decide +kernel
theorem dX0_board_58 : decode cX0_board 58 = .ok (.ior, 1) := by decide +kernel
theorem dX0_board_59 : decode cX0_board 59 = .ok (.iastore, 1) := by decide +kernel
theorem dX0_board_60 : decode cX0_board 60 = .ok (.aload_n 0, 1) := by decide +kernel
theorem dX0_board_61 : decode cX0_board 61 = .ok (.getfield 18, 3) := by decide +kernel
theorem dX0_board_64 : decode cX0_board 64 = .ok (.iload_n 1, 1) := by decide +kernel
theorem dX0_board_65 : decode cX0_board 65 = .ok (.iconst 0, 1) := by decide +kernel
theorem dX0_board_66 : decode cX0_board 66 = .ok (.iastore, 1) := by decide +kernel
theorem dX0_board_67 : decode cX0_board 67 = .ok (.aload_n 0, 1) := by decide +kernel
theorem dX0_board_68 : decode cX0_board 68 = .ok (.getfield 25, 3) := by decide +kernel
theorem dX0_board_71 : decode cX0_board 71 = .ok (.iload_n 1, 1) := by decide +kernel
theorem dX0_board_72 : decode cX0_board 72 = .ok (.bipush 8, 2) := by decide +kernel
theorem dX0_board_74 : decode cX0_board 74 = .ok (.iload_n 2, 1) := by decide +kernel
theorem dX0_board_75 : decode cX0_board 75 = .ok (.iadd, 1) := by decide +kernel
theorem dX0_board_76 : decode cX0_board 76 = .ok (.iastore, 1) := by decide +kernel
theorem dX0_board_77 : decode cX0_board 77 = .ok (.aload_n 0, 1) := by decide +kernel
theorem dX0_board_78 : decode cX0_board 78 = .ok (.getfield 28, 3) := by decide +kernel
theorem dX0_board_81 : decode cX0_board 81 = .ok (.iload_n 1, 1) := by decide +kernel
theorem dX0_board_82 : decode cX0_board 82 = .ok (.iload_n 3, 1) := by decide +kernel
theorem dX0_board_83 : decode cX0_board 83 = .ok (.iastore, 1) := by decide +kernel
theorem dX0_board_84 : decode cX0_board 84 = .ok (.return_, 1) := by decide +kernel
theorem dX0_pay_0 : decode cX0_pay 0 = .ok (.aload_n 0, 1) := by decide +kernel
theorem dX0_pay_1 : decode cX0_pay 1 = .ok (.getfield 25, 3) := by decide +kernel
theorem dX0_pay_4 : decode cX0_pay 4 = .ok (.iload_n 1, 1) := by decide +kernel
theorem dX0_pay_5 : decode cX0_pay 5 = .ok (.iaload, 1) := by decide +kernel
theorem dX0_pay_6 : decode cX0_pay 6 = .ok (.istore_n 2, 1) := by decide +kernel
theorem dX0_pay_7 : decode cX0_pay 7 = .ok (.iload_n 2, 1) := by decide +kernel
theorem dX0_pay_8 : decode cX0_pay 8 = .ok (.invokestatic 130, 3) := by decide +kernel
theorem dX0_pay_11 : decode cX0_pay 11 = .ok (.ifCond .ne 4, 3) := by decide +kernel
theorem dX0_pay_14 : decode cX0_pay 14 = .ok (.return_, 1) := by decide +kernel
theorem dX0_pay_15 : decode cX0_pay 15 = .ok (.aload_n 0, 1) := by decide +kernel
theorem dX0_pay_16 : decode cX0_pay 16 = .ok (.getfield 12, 3) := by decide +kernel
theorem dX0_pay_19 : decode cX0_pay 19 = .ok (.iload_n 1, 1) := by decide +kernel
theorem dX0_pay_20 : decode cX0_pay 20 = .ok (.iload_n 2, 1) := by decide +kernel
theorem dX0_pay_21 : decode cX0_pay 21 = .ok (.invokevirtual 145, 3) := by decide +kernel
theorem dX0_pay_24 : decode cX0_pay 24 = .ok (.istore_n 3, 1) := by decide +kernel
theorem dX0_pay_25 : decode cX0_pay 25 = .ok (.iload_n 3, 1) := by decide +kernel
theorem dX0_pay_26 : decode cX0_pay 26 = .ok (.aload_n 0, 1) := by decide +kernel
theorem dX0_pay_27 : decode cX0_pay 27 = .ok (.getfield 22, 3) := by decide +kernel
theorem dX0_pay_30 : decode cX0_pay 30 = .ok (.iload_n 1, 1) := by decide +kernel
theorem dX0_pay_31 : decode cX0_pay 31 = .ok (.iaload, 1) := by decide +kernel
theorem dX0_pay_32 : decode cX0_pay 32 = .ok (.invokestatic 139, 3) := by decide +kernel
theorem dX0_pay_35 : decode cX0_pay 35 = .ok (.istore 4, 2) := by decide +kernel
theorem dX0_pay_37 : decode cX0_pay 37 = .ok (.aload_n 0, 1) := by decide +kernel
theorem dX0_pay_38 : decode cX0_pay 38 = .ok (.getfield 22, 3) := by decide +kernel
theorem dX0_pay_41 : decode cX0_pay 41 = .ok (.iload_n 1, 1) := by decide +kernel
theorem dX0_pay_42 : decode cX0_pay 42 = .ok (.dup2, 1) := by decide +kernel
theorem dX0_pay_43 : decode cX0_pay 43 = .ok (.iaload, 1) := by decide +kernel
theorem dX0_pay_44 : decode cX0_pay 44 = .ok (.iload 4, 2) := by decide +kernel
theorem dX0_pay_46 : decode cX0_pay 46 = .ok (.isub, 1) := by decide +kernel
theorem dX0_pay_47 : decode cX0_pay 47 = .ok (.iastore, 1) := by decide +kernel
theorem dX0_pay_48 : decode cX0_pay 48 = .ok (.aload_n 0, 1) := by decide +kernel
theorem dX0_pay_49 : decode cX0_pay 49 = .ok (.getfield 31, 3) := by decide +kernel
theorem dX0_pay_52 : decode cX0_pay 52 = .ok (.iload_n 2, 1) := by decide +kernel
theorem dX0_pay_53 : decode cX0_pay 53 = .ok (.dup2, 1) := by decide +kernel
theorem dX0_pay_54 : decode cX0_pay 54 = .ok (.iaload, 1) := by decide +kernel
theorem dX0_pay_55 : decode cX0_pay 55 = .ok (.iload 4, 2) := by decide +kernel
theorem dX0_pay_57 : decode cX0_pay 57 = .ok (.iadd, 1) := by decide +kernel
theorem dX0_pay_58 : decode cX0_pay 58 = .ok (.iastore, 1) := by decide +kernel
theorem dX0_pay_59 : decode cX0_pay 59 = .ok (.aload_n 0, 1) := by decide +kernel
theorem dX0_pay_60 : decode cX0_pay 60 = .ok (.getfield 18, 3) := by decide +kernel
theorem dX0_pay_63 : decode cX0_pay 63 = .ok (.iload_n 1, 1) := by decide +kernel
theorem dX0_pay_64 : decode cX0_pay 64 = .ok (.dup2, 1) := by decide +kernel
theorem dX0_pay_65 : decode cX0_pay 65 = .ok (.iaload, 1) := by decide +kernel
theorem dX0_pay_66 : decode cX0_pay 66 = .ok (.iload_n 3, 1) := by decide +kernel
theorem dX0_pay_67 : decode cX0_pay 67 = .ok (.iload 4, 2) := by decide +kernel
theorem dX0_pay_69 : decode cX0_pay 69 = .ok (.isub, 1) := by decide +kernel
theorem dX0_pay_70 : decode cX0_pay 70 = .ok (.iadd, 1) := by decide +kernel
theorem dX0_pay_71 : decode cX0_pay 71 = .ok (.iastore, 1) := by decide +kernel
theorem dX0_pay_72 : decode cX0_pay 72 = .ok (.return_, 1) := by decide +kernel
theorem dX0_isHouse_0 : decode cX0_isHouse 0 = .ok (.iload_n 0, 1) := by decide +kernel
theorem dX0_isHouse_1 : decode cX0_isHouse 1 = .ok (.ifCond .lt 13, 3) := by decide +kernel
theorem dX0_isHouse_4 : decode cX0_isHouse 4 = .ok (.iload_n 0, 1) := by decide +kernel
theorem dX0_isHouse_5 : decode cX0_isHouse 5 = .ok (.bipush 8, 2) := by decide +kernel
theorem dX0_isHouse_7 : decode cX0_isHouse 7 = .ok (.if_icmp .ge 7, 3) := by decide +kernel
theorem dX0_isHouse_10 : decode cX0_isHouse 10 = .ok (.iconst 1, 1) := by decide +kernel
theorem dX0_isHouse_11 : decode cX0_isHouse 11 = .ok (.goto 4, 3) := by decide +kernel
theorem dX0_isHouse_14 : decode cX0_isHouse 14 = .ok (.iconst 0, 1) := by decide +kernel
theorem dX0_isHouse_15 : decode cX0_isHouse 15 = .ok (.ireturn, 1) := by decide +kernel
theorem dX0_owedTo_0 : decode cX0_owedTo 0 = .ok (.iconst 0, 1) := by decide +kernel
theorem dX0_owedTo_1 : decode cX0_owedTo 1 = .ok (.istore_n 3, 1) := by decide +kernel
theorem dX0_owedTo_2 : decode cX0_owedTo 2 = .ok (.iconst 0, 1) := by decide +kernel
theorem dX0_owedTo_3 : decode cX0_owedTo 3 = .ok (.istore 4, 2) := by decide +kernel
theorem dX0_owedTo_5 : decode cX0_owedTo 5 = .ok (.iload 4, 2) := by decide +kernel
theorem dX0_owedTo_7 : decode cX0_owedTo 7 = .ok (.aload_n 0, 1) := by decide +kernel
theorem dX0_owedTo_8 : decode cX0_owedTo 8 = .ok (.getfield 12, 3) := by decide +kernel
theorem dX0_owedTo_11 : decode cX0_owedTo 11 = .ok (.getfield 76, 3) := by decide +kernel
theorem dX0_owedTo_14 : decode cX0_owedTo 14 = .ok (.if_icmp .ge 40, 3) := by decide +kernel
theorem dX0_owedTo_17 : decode cX0_owedTo 17 = .ok (.aload_n 0, 1) := by decide +kernel
theorem dX0_owedTo_18 : decode cX0_owedTo 18 = .ok (.getfield 52, 3) := by decide +kernel
theorem dX0_owedTo_21 : decode cX0_owedTo 21 = .ok (.iload_n 2, 1) := by decide +kernel
theorem dX0_owedTo_22 : decode cX0_owedTo 22 = .ok (.bipush 8, 2) := by decide +kernel
theorem dX0_owedTo_24 : decode cX0_owedTo 24 = .ok (.imul, 1) := by decide +kernel
theorem dX0_owedTo_25 : decode cX0_owedTo 25 = .ok (.iload 4, 2) := by decide +kernel
theorem dX0_owedTo_27 : decode cX0_owedTo 27 = .ok (.iadd, 1) := by decide +kernel
theorem dX0_owedTo_28 : decode cX0_owedTo 28 = .ok (.iaload, 1) := by decide +kernel
theorem dX0_owedTo_29 : decode cX0_owedTo 29 = .ok (.iload_n 1, 1) := by decide +kernel
theorem dX0_owedTo_30 : decode cX0_owedTo 30 = .ok (.if_icmp .ne 18, 3) := by decide +kernel
theorem dX0_owedTo_33 : decode cX0_owedTo 33 = .ok (.iload_n 3, 1) := by decide +kernel
theorem dX0_owedTo_34 : decode cX0_owedTo 34 = .ok (.aload_n 0, 1) := by decide +kernel
theorem dX0_owedTo_35 : decode cX0_owedTo 35 = .ok (.getfield 46, 3) := by decide +kernel
theorem dX0_owedTo_38 : decode cX0_owedTo 38 = .ok (.iload_n 2, 1) := by decide +kernel
theorem dX0_owedTo_39 : decode cX0_owedTo 39 = .ok (.bipush 8, 2) := by decide +kernel
theorem dX0_owedTo_41 : decode cX0_owedTo 41 = .ok (.imul, 1) := by decide +kernel
theorem dX0_owedTo_42 : decode cX0_owedTo 42 = .ok (.iload 4, 2) := by decide +kernel
theorem dX0_owedTo_44 : decode cX0_owedTo 44 = .ok (.iadd, 1) := by decide +kernel
theorem dX0_owedTo_45 : decode cX0_owedTo 45 = .ok (.iaload, 1) := by decide +kernel
theorem dX0_owedTo_46 : decode cX0_owedTo 46 = .ok (.iadd, 1) := by decide +kernel
theorem dX0_owedTo_47 : decode cX0_owedTo 47 = .ok (.istore_n 3, 1) := by decide +kernel
theorem dX0_owedTo_48 : decode cX0_owedTo 48 = .ok (.iinc 4 1, 3) := by decide +kernel
theorem dX0_owedTo_51 : decode cX0_owedTo 51 = .ok (.goto (-46), 3) := by decide +kernel
theorem dX0_owedTo_54 : decode cX0_owedTo 54 = .ok (.iload_n 3, 1) := by decide +kernel
theorem dX0_owedTo_55 : decode cX0_owedTo 55 = .ok (.ireturn, 1) := by decide +kernel
theorem dX0_howManySailed_0 : decode cX0_howManySailed 0 = .ok (.iconst 0, 1) := by decide +kernel
theorem dX0_howManySailed_1 : decode cX0_howManySailed 1 = .ok (.istore_n 1, 1) := by decide +kernel
theorem dX0_howManySailed_2 : decode cX0_howManySailed 2 = .ok (.iconst 0, 1) := by decide +kernel
theorem dX0_howManySailed_3 : decode cX0_howManySailed 3 = .ok (.istore_n 2, 1) := by decide +kernel
theorem dX0_howManySailed_4 : decode cX0_howManySailed 4 = .ok (.iload_n 2, 1) := by decide +kernel
theorem dX0_howManySailed_5 : decode cX0_howManySailed 5 = .ok (.bipush 6, 2) := by decide +kernel
theorem dX0_howManySailed_7 : decode cX0_howManySailed 7 = .ok (.if_icmp .ge 21, 3) := by decide +kernel
theorem dX0_howManySailed_10 : decode cX0_howManySailed 10 = .ok (.iload_n 1, 1) := by decide +kernel
theorem dX0_howManySailed_11 : decode cX0_howManySailed 11 = .ok (.aload_n 0, 1) := by decide +kernel
theorem dX0_howManySailed_12 : decode cX0_howManySailed 12 = .ok (.getfield 43, 3) := by decide +kernel
theorem dX0_howManySailed_15 : decode cX0_howManySailed 15 = .ok (.iload_n 2, 1) := by decide +kernel
theorem dX0_howManySailed_16 : decode cX0_howManySailed 16 = .ok (.iaload, 1) := by decide +kernel
theorem dX0_howManySailed_17 : decode cX0_howManySailed 17 = .ok (.invokestatic 148, 3) := by decide +kernel
theorem dX0_howManySailed_20 : decode cX0_howManySailed 20 = .ok (.iadd, 1) := by decide +kernel
theorem dX0_howManySailed_21 : decode cX0_howManySailed 21 = .ok (.istore_n 1, 1) := by decide +kernel
theorem dX0_howManySailed_22 : decode cX0_howManySailed 22 = .ok (.iinc 2 1, 3) := by decide +kernel
theorem dX0_howManySailed_25 : decode cX0_howManySailed 25 = .ok (.goto (-21), 3) := by decide +kernel
theorem dX0_howManySailed_28 : decode cX0_howManySailed 28 = .ok (.iload_n 1, 1) := by decide +kernel
theorem dX0_howManySailed_29 : decode cX0_howManySailed 29 = .ok (.ireturn, 1) := by decide +kernel
theorem dX0_howManySound_0 : decode cX0_howManySound 0 = .ok (.iconst 0, 1) := by decide +kernel
theorem dX0_howManySound_1 : decode cX0_howManySound 1 = .ok (.istore_n 2, 1) := by decide +kernel
theorem dX0_howManySound_2 : decode cX0_howManySound 2 = .ok (.iconst 0, 1) := by decide +kernel
theorem dX0_howManySound_3 : decode cX0_howManySound 3 = .ok (.istore_n 3, 1) := by decide +kernel
theorem dX0_howManySound_4 : decode cX0_howManySound 4 = .ok (.iload_n 3, 1) := by decide +kernel
theorem dX0_howManySound_5 : decode cX0_howManySound 5 = .ok (.aload_n 0, 1) := by decide +kernel
theorem dX0_howManySound_6 : decode cX0_howManySound 6 = .ok (.getfield 12, 3) := by decide +kernel
theorem dX0_howManySound_9 : decode cX0_howManySound 9 = .ok (.getfield 76, 3) := by decide +kernel
theorem dX0_howManySound_12 : decode cX0_howManySound 12 = .ok (.if_icmp .ge 37, 3) := by decide +kernel
theorem dX0_howManySound_15 : decode cX0_howManySound 15 = .ok (.aload_n 0, 1) := by decide +kernel
theorem dX0_howManySound_16 : decode cX0_howManySound 16 = .ok (.getfield 43, 3) := by decide +kernel
theorem dX0_howManySound_19 : decode cX0_howManySound 19 = .ok (.iload_n 1, 1) := by decide +kernel
theorem dX0_howManySound_20 : decode cX0_howManySound 20 = .ok (.iaload, 1) := by decide +kernel
theorem dX0_howManySound_21 : decode cX0_howManySound 21 = .ok (.iload_n 3, 1) := by decide +kernel
theorem dX0_howManySound_22 : decode cX0_howManySound 22 = .ok (.ishr, 1) := by decide +kernel
theorem dX0_howManySound_23 : decode cX0_howManySound 23 = .ok (.iconst 1, 1) := by decide +kernel
theorem dX0_howManySound_24 : decode cX0_howManySound 24 = .ok (.iand, 1) := by decide +kernel
theorem dX0_howManySound_25 : decode cX0_howManySound 25 = .ok (.iconst 1, 1) := by decide +kernel
theorem dX0_howManySound_26 : decode cX0_howManySound 26 = .ok (.if_icmp .ne 17, 3) := by decide +kernel
theorem dX0_howManySound_29 : decode cX0_howManySound 29 = .ok (.aload_n 0, 1) := by decide +kernel
theorem dX0_howManySound_30 : decode cX0_howManySound 30 = .ok (.getfield 12, 3) := by decide +kernel
theorem dX0_howManySound_33 : decode cX0_howManySound 33 = .ok (.iload_n 3, 1) := by decide +kernel
theorem dX0_howManySound_34 : decode cX0_howManySound 34 = .ok (.invokevirtual 117, 3) := by decide +kernel
theorem dX0_howManySound_37 : decode cX0_howManySound 37 = .ok (.ifCond .eq 6, 3) := by decide +kernel
theorem dX0_howManySound_40 : decode cX0_howManySound 40 = .ok (.iinc 2 1, 3) := by decide +kernel
theorem dX0_howManySound_43 : decode cX0_howManySound 43 = .ok (.iinc 3 1, 3) := by decide +kernel
theorem dX0_howManySound_46 : decode cX0_howManySound 46 = .ok (.goto (-42), 3) := by decide +kernel
theorem dX0_howManySound_49 : decode cX0_howManySound 49 = .ok (.iload_n 2, 1) := by decide +kernel
theorem dX0_howManySound_50 : decode cX0_howManySound 50 = .ok (.ireturn, 1) := by decide +kernel
theorem dX1_init_0 : decode cX1_init 0 = .ok (.aload_n 0, 1) := by decide +kernel
theorem dX1_init_1 : decode cX1_init 1 = .ok (.invokespecial 3, 3) := by decide +kernel
theorem dX1_init_4 : decode cX1_init 4 = .ok (.aload_n 0, 1) := by decide +kernel
theorem dX1_init_5 : decode cX1_init 5 = .ok (.bipush 60, 2) := by decide +kernel
theorem dX1_init_7 : decode cX1_init 7 = .ok (.newarray .int, 2) := by decide +kernel
theorem dX1_init_9 : decode cX1_init 9 = .ok (.putfield 9, 3) := by decide +kernel
theorem dX1_init_12 : decode cX1_init 12 = .ok (.aload_n 0, 1) := by decide +kernel
theorem dX1_init_13 : decode cX1_init 13 = .ok (.iconst (-1), 1) := by decide +kernel
theorem dX1_init_14 : decode cX1_init 14 = .ok (.putfield 15, 3) := by decide +kernel
theorem dX1_init_17 : decode cX1_init 17 = .ok (.aload_n 0, 1) := by decide +kernel
theorem dX1_init_18 : decode cX1_init 18 = .ok (.iconst 0, 1) := by decide +kernel
theorem dX1_init_19 : decode cX1_init 19 = .ok (.putfield 19, 3) := by decide +kernel
theorem dX1_init_22 : decode cX1_init 22 = .ok (.return_, 1) := by decide +kernel
theorem dX1_renew_0 : decode cX1_renew 0 = .ok (.aload_n 0, 1) := by decide +kernel
theorem dX1_renew_1 : decode cX1_renew 1 = .ok (.iload_n 1, 1) := by decide +kernel
theorem dX1_renew_2 : decode cX1_renew 2 = .ok (.putfield 15, 3) := by decide +kernel
theorem dX1_renew_5 : decode cX1_renew 5 = .ok (.aload_n 0, 1) := by decide +kernel
theorem dX1_renew_6 : decode cX1_renew 6 = .ok (.iload_n 2, 1) := by decide +kernel
theorem dX1_renew_7 : decode cX1_renew 7 = .ok (.putfield 19, 3) := by decide +kernel
theorem dX1_renew_10 : decode cX1_renew 10 = .ok (.iconst 0, 1) := by decide +kernel
theorem dX1_renew_11 : decode cX1_renew 11 = .ok (.istore_n 3, 1) := by decide +kernel
theorem dX1_renew_12 : decode cX1_renew 12 = .ok (.iload_n 3, 1) := by decide +kernel
theorem dX1_renew_13 : decode cX1_renew 13 = .ok (.bipush 60, 2) := by decide +kernel
theorem dX1_renew_15 : decode cX1_renew 15 = .ok (.if_icmp .ge 16, 3) := by decide +kernel
theorem dX1_renew_18 : decode cX1_renew 18 = .ok (.aload_n 0, 1) := by decide +kernel
theorem dX1_renew_19 : decode cX1_renew 19 = .ok (.getfield 9, 3) := by decide +kernel
theorem dX1_renew_22 : decode cX1_renew 22 = .ok (.iload_n 3, 1) := by decide +kernel
theorem dX1_renew_23 : decode cX1_renew 23 = .ok (.iconst 0, 1) := by decide +kernel
theorem dX1_renew_24 : decode cX1_renew 24 = .ok (.iastore, 1) := by decide +kernel
theorem dX1_renew_25 : decode cX1_renew 25 = .ok (.iinc 3 1, 3) := by decide +kernel
theorem dX1_renew_28 : decode cX1_renew 28 = .ok (.goto (-16), 3) := by decide +kernel
theorem dX1_renew_31 : decode cX1_renew 31 = .ok (.return_, 1) := by decide +kernel
theorem dX1_set_0 : decode cX1_set 0 = .ok (.iload_n 1, 1) := by decide +kernel
theorem dX1_set_1 : decode cX1_set 1 = .ok (.ifCond .lt 49, 3) := by decide +kernel
theorem dX1_set_4 : decode cX1_set 4 = .ok (.iload_n 1, 1) := by decide +kernel
theorem dX1_set_5 : decode cX1_set 5 = .ok (.aload_n 0, 1) := by decide +kernel
theorem dX1_set_6 : decode cX1_set 6 = .ok (.getfield 19, 3) := by decide +kernel
theorem dX1_set_9 : decode cX1_set 9 = .ok (.if_icmp .ge 41, 3) := by decide +kernel
theorem dX1_set_12 : decode cX1_set 12 = .ok (.iload_n 1, 1) := by decide +kernel
theorem dX1_set_13 : decode cX1_set 13 = .ok (.bipush 60, 2) := by decide +kernel
theorem dX1_set_15 : decode cX1_set 15 = .ok (.if_icmp .ge 35, 3) := by decide +kernel
theorem dX1_set_18 : decode cX1_set 18 = .ok (.aload_n 0, 1) := by decide +kernel
theorem dX1_set_19 : decode cX1_set 19 = .ok (.getfield 9, 3) := by decide +kernel
theorem dX1_set_22 : decode cX1_set 22 = .ok (.iload_n 1, 1) := by decide +kernel
theorem dX1_set_23 : decode cX1_set 23 = .ok (.aload_n 0, 1) := by decide +kernel
theorem dX1_set_24 : decode cX1_set 24 = .ok (.getfield 15, 3) := by decide +kernel
theorem dX1_set_27 : decode cX1_set 27 = .ok (.ifCond .ne 8, 3) := by decide +kernel
theorem dX1_set_30 : decode cX1_set 30 = .ok (.iload_n 2, 1) := by decide +kernel
theorem dX1_set_31 : decode cX1_set 31 = .ok (.i2b, 1) := by decide +kernel
theorem dX1_set_32 : decode cX1_set 32 = .ok (.goto 17, 3) := by decide +kernel
theorem dX1_set_35 : decode cX1_set 35 = .ok (.aload_n 0, 1) := by decide +kernel
theorem dX1_set_36 : decode cX1_set 36 = .ok (.getfield 15, 3) := by decide +kernel
theorem dX1_set_39 : decode cX1_set 39 = .ok (.iconst 1, 1) := by decide +kernel
theorem dX1_set_40 : decode cX1_set 40 = .ok (.if_icmp .ne 8, 3) := by decide +kernel
theorem dX1_set_43 : decode cX1_set 43 = .ok (.iload_n 2, 1) := by decide +kernel
theorem dX1_set_44 : decode cX1_set 44 = .ok (.i2s, 1) := by decide +kernel
theorem dX1_set_45 : decode cX1_set 45 = .ok (.goto 4, 3) := by decide +kernel
theorem dX1_set_48 : decode cX1_set 48 = .ok (.iload_n 2, 1) := by decide +kernel
theorem dX1_set_49 : decode cX1_set 49 = .ok (.iastore, 1) := by decide +kernel
theorem dX1_set_50 : decode cX1_set 50 = .ok (.return_, 1) := by decide +kernel
theorem dX1_holds_0 : decode cX1_holds 0 = .ok (.iload_n 1, 1) := by decide +kernel
theorem dX1_holds_1 : decode cX1_holds 1 = .ok (.ifCond .lt 21, 3) := by decide +kernel
theorem dX1_holds_4 : decode cX1_holds 4 = .ok (.iload_n 2, 1) := by decide +kernel
theorem dX1_holds_5 : decode cX1_holds 5 = .ok (.ifCond .lt 17, 3) := by decide +kernel
theorem dX1_holds_8 : decode cX1_holds 8 = .ok (.iload_n 1, 1) := by decide +kernel
theorem dX1_holds_9 : decode cX1_holds 9 = .ok (.aload_n 0, 1) := by decide +kernel
theorem dX1_holds_10 : decode cX1_holds 10 = .ok (.getfield 19, 3) := by decide +kernel
theorem dX1_holds_13 : decode cX1_holds 13 = .ok (.iload_n 2, 1) := by decide +kernel
theorem dX1_holds_14 : decode cX1_holds 14 = .ok (.isub, 1) := by decide +kernel
theorem dX1_holds_15 : decode cX1_holds 15 = .ok (.if_icmp .gt 7, 3) := by decide +kernel
theorem dX1_holds_18 : decode cX1_holds 18 = .ok (.iconst 1, 1) := by decide +kernel
theorem dX1_holds_19 : decode cX1_holds 19 = .ok (.goto 4, 3) := by decide +kernel
theorem dX1_holds_22 : decode cX1_holds 22 = .ok (.iconst 0, 1) := by decide +kernel
theorem dX1_holds_23 : decode cX1_holds 23 = .ok (.ireturn, 1) := by decide +kernel
theorem dX2_init_0 : decode cX2_init 0 = .ok (.aload_n 0, 1) := by decide +kernel
theorem dX2_init_1 : decode cX2_init 1 = .ok (.invokespecial 3, 3) := by decide +kernel
theorem dX2_init_4 : decode cX2_init 4 = .ok (.aload_n 0, 1) := by decide +kernel
theorem dX2_init_5 : decode cX2_init 5 = .ok (.bipush 8, 2) := by decide +kernel
theorem dX2_init_7 : decode cX2_init 7 = .ok (.newarray .int, 2) := by decide +kernel
theorem dX2_init_9 : decode cX2_init 9 = .ok (.putfield 9, 3) := by decide +kernel
theorem dX2_init_12 : decode cX2_init 12 = .ok (.aload_n 0, 1) := by decide +kernel
theorem dX2_init_13 : decode cX2_init 13 = .ok (.bipush 8, 2) := by decide +kernel
theorem dX2_init_15 : decode cX2_init 15 = .ok (.newarray .int, 2) := by decide +kernel
theorem dX2_init_17 : decode cX2_init 17 = .ok (.putfield 15, 3) := by decide +kernel
theorem dX2_init_20 : decode cX2_init 20 = .ok (.aload_n 0, 1) := by decide +kernel
theorem dX2_init_21 : decode cX2_init 21 = .ok (.bipush 8, 2) := by decide +kernel
theorem dX2_init_23 : decode cX2_init 23 = .ok (.newarray .int, 2) := by decide +kernel
theorem dX2_init_25 : decode cX2_init 25 = .ok (.putfield 18, 3) := by decide +kernel
theorem dX2_init_28 : decode cX2_init 28 = .ok (.aload_n 0, 1) := by decide +kernel
theorem dX2_init_29 : decode cX2_init 29 = .ok (.iconst 0, 1) := by decide +kernel
theorem dX2_init_30 : decode cX2_init 30 = .ok (.putfield 21, 3) := by decide +kernel
theorem dX2_init_33 : decode cX2_init 33 = .ok (.return_, 1) := by decide +kernel
theorem dX2_more_0 : decode cX2_more 0 = .ok (.iload_n 1, 1) := by decide +kernel
theorem dX2_more_1 : decode cX2_more 1 = .ok (.invokestatic 25, 3) := by decide +kernel
theorem dX2_more_4 : decode cX2_more 4 = .ok (.ifCond .eq 24, 3) := by decide +kernel
theorem dX2_more_7 : decode cX2_more 7 = .ok (.iload_n 2, 1) := by decide +kernel
theorem dX2_more_8 : decode cX2_more 8 = .ok (.ifCond .lt 20, 3) := by decide +kernel
theorem dX2_more_11 : decode cX2_more 11 = .ok (.iload_n 2, 1) := by decide +kernel
theorem dX2_more_12 : decode cX2_more 12 = .ok (.bipush 8, 2) := by decide +kernel
theorem dX2_more_14 : decode cX2_more 14 = .ok (.if_icmp .ge 14, 3) := by decide +kernel
theorem dX2_more_17 : decode cX2_more 17 = .ok (.iload_n 3, 1) := by decide +kernel
theorem dX2_more_18 : decode cX2_more 18 = .ok (.ifCond .lt 10, 3) := by decide +kernel
theorem dX2_more_21 : decode cX2_more 21 = .ok (.iload_n 3, 1) := by decide +kernel
theorem dX2_more_22 : decode cX2_more 22 = .ok (.sipush 999, 3) := by decide +kernel
theorem dX2_more_25 : decode cX2_more 25 = .ok (.if_icmp .le 6, 3) := by decide +kernel
theorem dX2_more_28 : decode cX2_more 28 = .ok (.bipush (-2), 2) := by decide +kernel
theorem dX2_more_30 : decode cX2_more 30 = .ok (.ireturn, 1) := by decide +kernel
theorem dX2_more_31 : decode cX2_more 31 = .ok (.aload_n 0, 1) := by decide +kernel
theorem dX2_more_32 : decode cX2_more 32 = .ok (.getfield 21, 3) := by decide +kernel
theorem dX2_more_35 : decode cX2_more 35 = .ok (.ifCond .lt 12, 3) := by decide +kernel
theorem dX2_more_38 : decode cX2_more 38 = .ok (.aload_n 0, 1) := by decide +kernel
theorem dX2_more_39 : decode cX2_more 39 = .ok (.getfield 21, 3) := by decide +kernel
theorem dX2_more_42 : decode cX2_more 42 = .ok (.bipush 8, 2) := by decide +kernel
theorem dX2_more_44 : decode cX2_more 44 = .ok (.if_icmp .lt 6, 3) := by decide +kernel
theorem dX2_more_47 : decode cX2_more 47 = .ok (.bipush (-4), 2) := by decide +kernel
theorem dX2_more_49 : decode cX2_more 49 = .ok (.ireturn, 1) := by decide +kernel
theorem dX2_more_50 : decode cX2_more 50 = .ok (.aload_n 0, 1) := by decide +kernel
theorem dX2_more_51 : decode cX2_more 51 = .ok (.getfield 9, 3) := by decide +kernel
theorem dX2_more_54 : decode cX2_more 54 = .ok (.aload_n 0, 1) := by decide +kernel
theorem dX2_more_55 : decode cX2_more 55 = .ok (.getfield 21, 3) := by decide +kernel
theorem dX2_more_58 : decode cX2_more 58 = .ok (.iload_n 1, 1) := by decide +kernel
theorem dX2_more_59 : decode cX2_more 59 = .ok (.iastore, 1) := by decide +kernel
theorem dX2_more_60 : decode cX2_more 60 = .ok (.aload_n 0, 1) := by decide +kernel
theorem dX2_more_61 : decode cX2_more 61 = .ok (.getfield 15, 3) := by decide +kernel
theorem dX2_more_64 : decode cX2_more 64 = .ok (.aload_n 0, 1) := by decide +kernel
theorem dX2_more_65 : decode cX2_more 65 = .ok (.getfield 21, 3) := by decide +kernel
theorem dX2_more_68 : decode cX2_more 68 = .ok (.iload_n 2, 1) := by decide +kernel
theorem dX2_more_69 : decode cX2_more 69 = .ok (.iastore, 1) := by decide +kernel
theorem dX2_more_70 : decode cX2_more 70 = .ok (.aload_n 0, 1) := by decide +kernel
theorem dX2_more_71 : decode cX2_more 71 = .ok (.getfield 18, 3) := by decide +kernel
theorem dX2_more_74 : decode cX2_more 74 = .ok (.aload_n 0, 1) := by decide +kernel
theorem dX2_more_75 : decode cX2_more 75 = .ok (.getfield 21, 3) := by decide +kernel
theorem dX2_more_78 : decode cX2_more 78 = .ok (.iload_n 3, 1) := by decide +kernel
theorem dX2_more_79 : decode cX2_more 79 = .ok (.iastore, 1) := by decide +kernel
theorem dX2_more_80 : decode cX2_more 80 = .ok (.aload_n 0, 1) := by decide +kernel
theorem dX2_more_81 : decode cX2_more 81 = .ok (.dup, 1) := by decide +kernel
theorem dX2_more_82 : decode cX2_more 82 = .ok (.getfield 21, 3) := by decide +kernel
theorem dX2_more_85 : decode cX2_more 85 = .ok (.iconst 1, 1) := by decide +kernel
theorem dX2_more_86 : decode cX2_more 86 = .ok (.iadd, 1) := by decide +kernel
theorem dX2_more_87 : decode cX2_more 87 = .ok (.putfield 21, 3) := by decide +kernel
theorem dX2_more_90 : decode cX2_more 90 = .ok (.aload_n 0, 1) := by decide +kernel
theorem dX2_more_91 : decode cX2_more 91 = .ok (.getfield 21, 3) := by decide +kernel
theorem dX2_more_94 : decode cX2_more 94 = .ok (.ireturn, 1) := by decide +kernel
theorem dX2_comeOutSo_0 : decode cX2_comeOutSo 0 = .ok (.iconst 0, 1) := by decide +kernel
theorem dX2_comeOutSo_1 : decode cX2_comeOutSo 1 = .ok (.istore_n 2, 1) := by decide +kernel
theorem dX2_comeOutSo_2 : decode cX2_comeOutSo 2 = .ok (.iload_n 2, 1) := by decide +kernel
theorem dX2_comeOutSo_3 : decode cX2_comeOutSo 3 = .ok (.aload_n 0, 1) := by decide +kernel
theorem dX2_comeOutSo_4 : decode cX2_comeOutSo 4 = .ok (.getfield 21, 3) := by decide +kernel
theorem dX2_comeOutSo_7 : decode cX2_comeOutSo 7 = .ok (.if_icmp .ge 73, 3) := by decide +kernel
theorem dX2_comeOutSo_10 : decode cX2_comeOutSo 10 = .ok (.iload_n 2, 1) := by decide +kernel
theorem dX2_comeOutSo_11 : decode cX2_comeOutSo 11 = .ok (.bipush 8, 2) := by decide +kernel
theorem dX2_comeOutSo_13 : decode cX2_comeOutSo 13 = .ok (.if_icmp .ge 67, 3) := by decide +kernel
theorem dX2_comeOutSo_16 : decode cX2_comeOutSo 16 = .ok (.aload_n 0, 1) := by decide +kernel
theorem dX2_comeOutSo_17 : decode cX2_comeOutSo 17 = .ok (.getfield 15, 3) := by decide +kernel
theorem dX2_comeOutSo_20 : decode cX2_comeOutSo 20 = .ok (.iload_n 2, 1) := by decide +kernel
theorem dX2_comeOutSo_21 : decode cX2_comeOutSo 21 = .ok (.iaload, 1) := by decide +kernel
theorem dX2_comeOutSo_22 : decode cX2_comeOutSo 22 = .ok (.aload_n 1, 1) := by decide +kernel
theorem dX2_comeOutSo_23 : decode cX2_comeOutSo 23 = .ok (.getfield 29, 3) := by decide +kernel
theorem dX2_comeOutSo_26 : decode cX2_comeOutSo 26 = .ok (.getfield 35, 3) := by decide +kernel
theorem dX2_comeOutSo_29 : decode cX2_comeOutSo 29 = .ok (.if_icmp .ge 7, 3) := by decide +kernel
theorem dX2_comeOutSo_32 : decode cX2_comeOutSo 32 = .ok (.iconst 1, 1) := by decide +kernel
theorem dX2_comeOutSo_33 : decode cX2_comeOutSo 33 = .ok (.goto 4, 3) := by decide +kernel
theorem dX2_comeOutSo_36 : decode cX2_comeOutSo 36 = .ok (.iconst 0, 1) := by decide +kernel
theorem dX2_comeOutSo_37 : decode cX2_comeOutSo 37 = .ok (.istore_n 3, 1) := by decide +kernel
theorem dX2_comeOutSo_38 : decode cX2_comeOutSo 38 = .ok (.iload_n 3, 1) := by decide +kernel
theorem dX2_comeOutSo_39 : decode cX2_comeOutSo 39 = .ok (.ifCond .eq 33, 3) := by decide +kernel
theorem dX2_comeOutSo_42 : decode cX2_comeOutSo 42 = .ok (.aload_n 1, 1) := by decide +kernel
theorem dX2_comeOutSo_43 : decode cX2_comeOutSo 43 = .ok (.getfield 40, 3) := by decide +kernel
theorem dX2_comeOutSo_46 : decode cX2_comeOutSo 46 = .ok (.aload_n 0, 1) := by decide +kernel
theorem dX2_comeOutSo_47 : decode cX2_comeOutSo 47 = .ok (.getfield 9, 3) := by decide +kernel
theorem dX2_comeOutSo_50 : decode cX2_comeOutSo 50 = .ok (.iload_n 2, 1) := by decide +kernel
theorem dX2_comeOutSo_51 : decode cX2_comeOutSo 51 = .ok (.iaload, 1) := by decide +kernel
theorem dX2_comeOutSo_52 : decode cX2_comeOutSo 52 = .ok (.bipush 8, 2) := by decide +kernel
theorem dX2_comeOutSo_54 : decode cX2_comeOutSo 54 = .ok (.imul, 1) := by decide +kernel
theorem dX2_comeOutSo_55 : decode cX2_comeOutSo 55 = .ok (.aload_n 0, 1) := by decide +kernel
theorem dX2_comeOutSo_56 : decode cX2_comeOutSo 56 = .ok (.getfield 15, 3) := by decide +kernel
theorem dX2_comeOutSo_59 : decode cX2_comeOutSo 59 = .ok (.iload_n 2, 1) := by decide +kernel
theorem dX2_comeOutSo_60 : decode cX2_comeOutSo 60 = .ok (.iaload, 1) := by decide +kernel
theorem dX2_comeOutSo_61 : decode cX2_comeOutSo 61 = .ok (.iadd, 1) := by decide +kernel
theorem dX2_comeOutSo_62 : decode cX2_comeOutSo 62 = .ok (.iaload, 1) := by decide +kernel
theorem dX2_comeOutSo_63 : decode cX2_comeOutSo 63 = .ok (.aload_n 0, 1) := by decide +kernel
theorem dX2_comeOutSo_64 : decode cX2_comeOutSo 64 = .ok (.getfield 18, 3) := by decide +kernel
theorem dX2_comeOutSo_67 : decode cX2_comeOutSo 67 = .ok (.iload_n 2, 1) := by decide +kernel
theorem dX2_comeOutSo_68 : decode cX2_comeOutSo 68 = .ok (.iaload, 1) := by decide +kernel
theorem dX2_comeOutSo_69 : decode cX2_comeOutSo 69 = .ok (.if_icmp .eq 5, 3) := by decide +kernel
theorem dX2_comeOutSo_72 : decode cX2_comeOutSo 72 = .ok (.iconst 0, 1) := by decide +kernel
theorem dX2_comeOutSo_73 : decode cX2_comeOutSo 73 = .ok (.ireturn, 1) := by decide +kernel
theorem dX2_comeOutSo_74 : decode cX2_comeOutSo 74 = .ok (.iinc 2 1, 3) := by decide +kernel
theorem dX2_comeOutSo_77 : decode cX2_comeOutSo 77 = .ok (.goto (-75), 3) := by decide +kernel
theorem dX2_comeOutSo_80 : decode cX2_comeOutSo 80 = .ok (.iconst 1, 1) := by decide +kernel
theorem dX2_comeOutSo_81 : decode cX2_comeOutSo 81 = .ok (.ireturn, 1) := by decide +kernel
theorem dX3_init_0 : decode cX3_init 0 = .ok (.aload_n 0, 1) := by decide +kernel
theorem dX3_init_1 : decode cX3_init 1 = .ok (.invokespecial 3, 3) := by decide +kernel
theorem dX3_init_4 : decode cX3_init 4 = .ok (.aload_n 0, 1) := by decide +kernel
theorem dX3_init_5 : decode cX3_init 5 = .ok (.iconst 0, 1) := by decide +kernel
theorem dX3_init_6 : decode cX3_init 6 = .ok (.putfield 9, 3) := by decide +kernel
theorem dX3_init_9 : decode cX3_init 9 = .ok (.aload_n 0, 1) := by decide +kernel
theorem dX3_init_10 : decode cX3_init 10 = .ok (.aload_n 1, 1) := by decide +kernel
theorem dX3_init_11 : decode cX3_init 11 = .ok (.putfield 15, 3) := by decide +kernel
theorem dX3_init_14 : decode cX3_init 14 = .ok (.aload_n 0, 1) := by decide +kernel
theorem dX3_init_15 : decode cX3_init 15 = .ok (.aload_n 2, 1) := by decide +kernel
theorem dX3_init_16 : decode cX3_init 16 = .ok (.putfield 19, 3) := by decide +kernel
theorem dX3_init_19 : decode cX3_init 19 = .ok (.return_, 1) := by decide +kernel
theorem dX3_firstFault_0 : decode cX3_firstFault 0 = .ok (.iconst 0, 1) := by decide +kernel
theorem dX3_firstFault_1 : decode cX3_firstFault 1 = .ok (.istore_n 1, 1) := by decide +kernel
theorem dX3_firstFault_2 : decode cX3_firstFault 2 = .ok (.iload_n 1, 1) := by decide +kernel
theorem dX3_firstFault_3 : decode cX3_firstFault 3 = .ok (.aload_n 0, 1) := by decide +kernel
theorem dX3_firstFault_4 : decode cX3_firstFault 4 = .ok (.getfield 9, 3) := by decide +kernel
theorem dX3_firstFault_7 : decode cX3_firstFault 7 = .ok (.if_icmp .ge 79, 3) := by decide +kernel
theorem dX3_firstFault_10 : decode cX3_firstFault 10 = .ok (.iload_n 1, 1) := by decide +kernel
theorem dX3_firstFault_11 : decode cX3_firstFault 11 = .ok (.aload_n 0, 1) := by decide +kernel
theorem dX3_firstFault_12 : decode cX3_firstFault 12 = .ok (.getfield 19, 3) := by decide +kernel
theorem dX3_firstFault_15 : decode cX3_firstFault 15 = .ok (.arraylength, 1) := by decide +kernel
theorem dX3_firstFault_16 : decode cX3_firstFault 16 = .ok (.if_icmp .ge 70, 3) := by decide +kernel
theorem dX3_firstFault_19 : decode cX3_firstFault 19 = .ok (.iload_n 1, 1) := by decide +kernel
theorem dX3_firstFault_20 : decode cX3_firstFault 20 = .ok (.aload_n 0, 1) := by decide +kernel
theorem dX3_firstFault_21 : decode cX3_firstFault 21 = .ok (.invokevirtual 23, 3) := by decide +kernel
theorem dX3_firstFault_24 : decode cX3_firstFault 24 = .ok (.irem, 1) := by decide +kernel
theorem dX3_firstFault_25 : decode cX3_firstFault 25 = .ok (.istore_n 2, 1) := by decide +kernel
theorem dX3_firstFault_26 : decode cX3_firstFault 26 = .ok (.iload_n 2, 1) := by decide +kernel
theorem dX3_firstFault_27 : decode cX3_firstFault 27 = .ok (.aload_n 0, 1) := by decide +kernel
theorem dX3_firstFault_28 : decode cX3_firstFault 28 = .ok (.getfield 15, 3) := by decide +kernel
theorem dX3_firstFault_31 : decode cX3_firstFault 31 = .ok (.invokevirtual 27, 3) := by decide +kernel
theorem dX3_firstFault_34 : decode cX3_firstFault 34 = .ok (.if_icmp .ge 23, 3) := by decide +kernel
theorem dX3_firstFault_37 : decode cX3_firstFault 37 = .ok (.aload_n 0, 1) := by decide +kernel
theorem dX3_firstFault_38 : decode cX3_firstFault 38 = .ok (.getfield 15, 3) := by decide +kernel
theorem dX3_firstFault_41 : decode cX3_firstFault 41 = .ok (.iload_n 2, 1) := by decide +kernel
theorem dX3_firstFault_42 : decode cX3_firstFault 42 = .ok (.invokevirtual 32, 3) := by decide +kernel
theorem dX3_firstFault_45 : decode cX3_firstFault 45 = .ok (.aload_n 0, 1) := by decide +kernel
theorem dX3_firstFault_46 : decode cX3_firstFault 46 = .ok (.getfield 19, 3) := by decide +kernel
theorem dX3_firstFault_49 : decode cX3_firstFault 49 = .ok (.iload_n 1, 1) := by decide +kernel
theorem dX3_firstFault_50 : decode cX3_firstFault 50 = .ok (.caload, 1) := by decide +kernel
theorem dX3_firstFault_51 : decode cX3_firstFault 51 = .ok (.invokestatic 36, 3) := by decide +kernel
theorem dX3_firstFault_54 : decode cX3_firstFault 54 = .ok (.goto 19, 3) := by decide +kernel
theorem dX3_firstFault_57 : decode cX3_firstFault 57 = .ok (.aload_n 0, 1) := by decide +kernel
theorem dX3_firstFault_58 : decode cX3_firstFault 58 = .ok (.getfield 19, 3) := by decide +kernel
theorem dX3_firstFault_61 : decode cX3_firstFault 61 = .ok (.iload_n 1, 1) := by decide +kernel
theorem dX3_firstFault_62 : decode cX3_firstFault 62 = .ok (.caload, 1) := by decide +kernel
theorem dX3_firstFault_63 : decode cX3_firstFault 63 = .ok (.bipush 59, 2) := by decide +kernel
theorem dX3_firstFault_65 : decode cX3_firstFault 65 = .ok (.if_icmp .ne 7, 3) := by decide +kernel
theorem dX3_firstFault_68 : decode cX3_firstFault 68 = .ok (.iconst 1, 1) := by decide +kernel
theorem dX3_firstFault_69 : decode cX3_firstFault 69 = .ok (.goto 4, 3) := by decide +kernel
theorem dX3_firstFault_72 : decode cX3_firstFault 72 = .ok (.iconst 0, 1) := by decide +kernel
theorem dX3_firstFault_73 : decode cX3_firstFault 73 = .ok (.istore_n 3, 1) := by decide +kernel
theorem dX3_firstFault_74 : decode cX3_firstFault 74 = .ok (.iload_n 3, 1) := by decide +kernel
theorem dX3_firstFault_75 : decode cX3_firstFault 75 = .ok (.ifCond .ne 5, 3) := by decide +kernel
theorem dX3_firstFault_78 : decode cX3_firstFault 78 = .ok (.iload_n 1, 1) := by decide +kernel
theorem dX3_firstFault_79 : decode cX3_firstFault 79 = .ok (.ireturn, 1) := by decide +kernel
theorem dX3_firstFault_80 : decode cX3_firstFault 80 = .ok (.iinc 1 1, 3) := by decide +kernel
theorem dX3_firstFault_83 : decode cX3_firstFault 83 = .ok (.goto (-81), 3) := by decide +kernel
theorem dX3_firstFault_86 : decode cX3_firstFault 86 = .ok (.aload_n 0, 1) := by decide +kernel
theorem dX3_firstFault_87 : decode cX3_firstFault 87 = .ok (.getfield 9, 3) := by decide +kernel
theorem dX3_firstFault_90 : decode cX3_firstFault 90 = .ok (.ifCond .eq 22, 3) := by decide +kernel
theorem dX3_firstFault_93 : decode cX3_firstFault 93 = .ok (.aload_n 0, 1) := by decide +kernel
theorem dX3_firstFault_94 : decode cX3_firstFault 94 = .ok (.getfield 9, 3) := by decide +kernel
theorem dX3_firstFault_97 : decode cX3_firstFault 97 = .ok (.aload_n 0, 1) := by decide +kernel
theorem dX3_firstFault_98 : decode cX3_firstFault 98 = .ok (.invokevirtual 23, 3) := by decide +kernel
theorem dX3_firstFault_101 : decode cX3_firstFault 101 = .ok (.irem, 1) := by decide +kernel
theorem dX3_firstFault_102 : decode cX3_firstFault 102 = .ok (.aload_n 0, 1) := by decide +kernel
theorem dX3_firstFault_103 : decode cX3_firstFault 103 = .ok (.getfield 15, 3) := by decide +kernel
theorem dX3_firstFault_106 : decode cX3_firstFault 106 = .ok (.invokevirtual 27, 3) := by decide +kernel
theorem dX3_firstFault_109 : decode cX3_firstFault 109 = .ok (.if_icmp .ne 7, 3) := by decide +kernel
theorem dX3_firstFault_112 : decode cX3_firstFault 112 = .ok (.iconst (-1), 1) := by decide +kernel
theorem dX3_firstFault_113 : decode cX3_firstFault 113 = .ok (.goto 7, 3) := by decide +kernel
theorem dX3_firstFault_116 : decode cX3_firstFault 116 = .ok (.aload_n 0, 1) := by decide +kernel
theorem dX3_firstFault_117 : decode cX3_firstFault 117 = .ok (.getfield 9, 3) := by decide +kernel
theorem dX3_firstFault_120 : decode cX3_firstFault 120 = .ok (.ireturn, 1) := by decide +kernel
theorem dX3_items_0 : decode cX3_items 0 = .ok (.aload_n 0, 1) := by decide +kernel
theorem dX3_items_1 : decode cX3_items 1 = .ok (.invokevirtual 40, 3) := by decide +kernel
theorem dX3_items_4 : decode cX3_items 4 = .ok (.iconst (-1), 1) := by decide +kernel
theorem dX3_items_5 : decode cX3_items 5 = .ok (.if_icmp .ne 17, 3) := by decide +kernel
theorem dX3_items_8 : decode cX3_items 8 = .ok (.aload_n 0, 1) := by decide +kernel
theorem dX3_items_9 : decode cX3_items 9 = .ok (.getfield 9, 3) := by decide +kernel
theorem dX3_items_12 : decode cX3_items 12 = .ok (.iconst 1, 1) := by decide +kernel
theorem dX3_items_13 : decode cX3_items 13 = .ok (.iadd, 1) := by decide +kernel
theorem dX3_items_14 : decode cX3_items 14 = .ok (.aload_n 0, 1) := by decide +kernel
theorem dX3_items_15 : decode cX3_items 15 = .ok (.invokevirtual 23, 3) := by decide +kernel
theorem dX3_items_18 : decode cX3_items 18 = .ok (.idiv, 1) := by decide +kernel
theorem dX3_items_19 : decode cX3_items 19 = .ok (.goto 4, 3) := by decide +kernel
theorem dX3_items_22 : decode cX3_items 22 = .ok (.iconst 0, 1) := by decide +kernel
theorem dX3_items_23 : decode cX3_items 23 = .ok (.ireturn, 1) := by decide +kernel
theorem dX3_byteOf_0 : decode cX3_byteOf 0 = .ok (.iload_n 1, 1) := by decide +kernel
theorem dX3_byteOf_1 : decode cX3_byteOf 1 = .ok (.aload_n 0, 1) := by decide +kernel
theorem dX3_byteOf_2 : decode cX3_byteOf 2 = .ok (.invokevirtual 23, 3) := by decide +kernel
theorem dX3_byteOf_5 : decode cX3_byteOf 5 = .ok (.imul, 1) := by decide +kernel
theorem dX3_byteOf_6 : decode cX3_byteOf 6 = .ok (.iload_n 2, 1) := by decide +kernel
theorem dX3_byteOf_7 : decode cX3_byteOf 7 = .ok (.iadd, 1) := by decide +kernel
theorem dX3_byteOf_8 : decode cX3_byteOf 8 = .ok (.istore_n 3, 1) := by decide +kernel
theorem dX3_byteOf_9 : decode cX3_byteOf 9 = .ok (.iload_n 3, 1) := by decide +kernel
theorem dX3_byteOf_10 : decode cX3_byteOf 10 = .ok (.ifCond .lt 29, 3) := by decide +kernel
theorem dX3_byteOf_13 : decode cX3_byteOf 13 = .ok (.iload_n 3, 1) := by decide +kernel
theorem dX3_byteOf_14 : decode cX3_byteOf 14 = .ok (.aload_n 0, 1) := by decide +kernel
theorem dX3_byteOf_15 : decode cX3_byteOf 15 = .ok (.getfield 9, 3) := by decide +kernel
theorem dX3_byteOf_18 : decode cX3_byteOf 18 = .ok (.if_icmp .ge 21, 3) := by decide +kernel
theorem dX3_byteOf_21 : decode cX3_byteOf 21 = .ok (.iload_n 3, 1) := by decide +kernel
theorem dX3_byteOf_22 : decode cX3_byteOf 22 = .ok (.aload_n 0, 1) := by decide +kernel
theorem dX3_byteOf_23 : decode cX3_byteOf 23 = .ok (.getfield 19, 3) := by decide +kernel
theorem dX3_byteOf_26 : decode cX3_byteOf 26 = .ok (.arraylength, 1) := by decide +kernel
theorem dX3_byteOf_27 : decode cX3_byteOf 27 = .ok (.if_icmp .ge 12, 3) := by decide +kernel
theorem dX3_byteOf_30 : decode cX3_byteOf 30 = .ok (.aload_n 0, 1) := by decide +kernel
theorem dX3_byteOf_31 : decode cX3_byteOf 31 = .ok (.getfield 19, 3) := by decide +kernel
theorem dX3_byteOf_34 : decode cX3_byteOf 34 = .ok (.iload_n 3, 1) := by decide +kernel
theorem dX3_byteOf_35 : decode cX3_byteOf 35 = .ok (.caload, 1) := by decide +kernel
theorem dX3_byteOf_36 : decode cX3_byteOf 36 = .ok (.goto 5, 3) := by decide +kernel
theorem dX3_byteOf_39 : decode cX3_byteOf 39 = .ok (.bipush 48, 2) := by decide +kernel
theorem dX3_byteOf_41 : decode cX3_byteOf 41 = .ok (.ireturn, 1) := by decide +kernel
theorem dX3_figure_0 : decode cX3_figure 0 = .ok (.aload_n 0, 1) := by decide +kernel
theorem dX3_figure_1 : decode cX3_figure 1 = .ok (.iload_n 1, 1) := by decide +kernel
theorem dX3_figure_2 : decode cX3_figure 2 = .ok (.iload_n 2, 1) := by decide +kernel
theorem dX3_figure_3 : decode cX3_figure 3 = .ok (.invokevirtual 43, 3) := by decide +kernel
theorem dX3_figure_6 : decode cX3_figure 6 = .ok (.bipush 48, 2) := by decide +kernel
theorem dX3_figure_8 : decode cX3_figure 8 = .ok (.isub, 1) := by decide +kernel
theorem dX3_figure_9 : decode cX3_figure 9 = .ok (.ireturn, 1) := by decide +kernel
theorem dX3_step_0 : decode cX3_step 0 = .ok (.aload_n 0, 1) := by decide +kernel
theorem dX3_step_1 : decode cX3_step 1 = .ok (.getfield 15, 3) := by decide +kernel
theorem dX3_step_4 : decode cX3_step 4 = .ok (.invokevirtual 27, 3) := by decide +kernel
theorem dX3_step_7 : decode cX3_step 7 = .ok (.iconst 1, 1) := by decide +kernel
theorem dX3_step_8 : decode cX3_step 8 = .ok (.iadd, 1) := by decide +kernel
theorem dX3_step_9 : decode cX3_step 9 = .ok (.ireturn, 1) := by decide +kernel
theorem dX3_fits_0 : decode cX3_fits 0 = .ok (.iload_n 0, 1) := by decide +kernel
theorem dX3_fits_1 : decode cX3_fits 1 = .ok (.bipush 107, 2) := by decide +kernel
theorem dX3_fits_3 : decode cX3_fits 3 = .ok (.if_icmp .ne 17, 3) := by decide +kernel
theorem dX3_fits_6 : decode cX3_fits 6 = .ok (.iload_n 1, 1) := by decide +kernel
theorem dX3_fits_7 : decode cX3_fits 7 = .ok (.invokestatic 47, 3) := by decide +kernel
theorem dX3_fits_10 : decode cX3_fits 10 = .ok (.iconst (-1), 1) := by decide +kernel
theorem dX3_fits_11 : decode cX3_fits 11 = .ok (.if_icmp .eq 7, 3) := by decide +kernel
theorem dX3_fits_14 : decode cX3_fits 14 = .ok (.iconst 1, 1) := by decide +kernel
theorem dX3_fits_15 : decode cX3_fits 15 = .ok (.goto 4, 3) := by decide +kernel
theorem dX3_fits_18 : decode cX3_fits 18 = .ok (.iconst 0, 1) := by decide +kernel
theorem dX3_fits_19 : decode cX3_fits 19 = .ok (.ireturn, 1) := by decide +kernel
theorem dX3_fits_20 : decode cX3_fits 20 = .ok (.iload_n 0, 1) := by decide +kernel
theorem dX3_fits_21 : decode cX3_fits 21 = .ok (.bipush 110, 2) := by decide +kernel
theorem dX3_fits_23 : decode cX3_fits 23 = .ok (.if_icmp .ne 8, 3) := by decide +kernel
theorem dX3_fits_26 : decode cX3_fits 26 = .ok (.bipush 49, 2) := by decide +kernel
theorem dX3_fits_28 : decode cX3_fits 28 = .ok (.goto 5, 3) := by decide +kernel
theorem dX3_fits_31 : decode cX3_fits 31 = .ok (.bipush 48, 2) := by decide +kernel
theorem dX3_fits_33 : decode cX3_fits 33 = .ok (.istore_n 2, 1) := by decide +kernel
theorem dX3_fits_34 : decode cX3_fits 34 = .ok (.iload_n 0, 1) := by decide +kernel
theorem dX3_fits_35 : decode cX3_fits 35 = .ok (.bipush 104, 2) := by decide +kernel
theorem dX3_fits_37 : decode cX3_fits 37 = .ok (.if_icmp .ne 8, 3) := by decide +kernel
theorem dX3_fits_40 : decode cX3_fits 40 = .ok (.bipush 55, 2) := by decide +kernel
theorem dX3_fits_42 : decode cX3_fits 42 = .ok (.goto 16, 3) := by decide +kernel
theorem dX3_fits_45 : decode cX3_fits 45 = .ok (.iload_n 0, 1) := by decide +kernel
theorem dX3_fits_46 : decode cX3_fits 46 = .ok (.bipush 100, 2) := by decide +kernel
theorem dX3_fits_48 : decode cX3_fits 48 = .ok (.if_icmp .ne 8, 3) := by decide +kernel
theorem dX3_fits_51 : decode cX3_fits 51 = .ok (.bipush 50, 2) := by decide +kernel
theorem dX3_fits_53 : decode cX3_fits 53 = .ok (.goto 5, 3) := by decide +kernel
theorem dX3_fits_56 : decode cX3_fits 56 = .ok (.bipush 57, 2) := by decide +kernel
theorem dX3_fits_58 : decode cX3_fits 58 = .ok (.istore_n 3, 1) := by decide +kernel
theorem dX3_fits_59 : decode cX3_fits 59 = .ok (.iload_n 1, 1) := by decide +kernel
theorem dX3_fits_60 : decode cX3_fits 60 = .ok (.iload_n 2, 1) := by decide +kernel
theorem dX3_fits_61 : decode cX3_fits 61 = .ok (.if_icmp .lt 12, 3) := by decide +kernel
theorem dX3_fits_64 : decode cX3_fits 64 = .ok (.iload_n 1, 1) := by decide +kernel
theorem dX3_fits_65 : decode cX3_fits 65 = .ok (.iload_n 3, 1) := by decide +kernel
theorem dX3_fits_66 : decode cX3_fits 66 = .ok (.if_icmp .gt 7, 3) := by decide +kernel
theorem dX3_fits_69 : decode cX3_fits 69 = .ok (.iconst 1, 1) := by decide +kernel
theorem dX3_fits_70 : decode cX3_fits 70 = .ok (.goto 4, 3) := by decide +kernel
theorem dX3_fits_73 : decode cX3_fits 73 = .ok (.iconst 0, 1) := by decide +kernel
theorem dX3_fits_74 : decode cX3_fits 74 = .ok (.ireturn, 1) := by decide +kernel
theorem dX3_kindOf_0 : decode cX3_kindOf 0 = .ok (.ldc 51, 2) := by decide +kernel
theorem dX3_kindOf_2 : decode cX3_kindOf 2 = .ok (.iload_n 0, 1) := by decide +kernel
theorem dX3_kindOf_3 : decode cX3_kindOf 3 = .ok (.invokevirtual 53, 3) := by decide +kernel
theorem dX3_kindOf_6 : decode cX3_kindOf 6 = .ok (.ireturn, 1) := by decide +kernel
theorem dX4_init_0 : decode cX4_init 0 = .ok (.aload_n 0, 1) := by decide +kernel
theorem dX4_init_1 : decode cX4_init 1 = .ok (.invokespecial 3, 3) := by decide +kernel
theorem dX4_init_4 : decode cX4_init 4 = .ok (.aload_n 0, 1) := by decide +kernel
theorem dX4_init_5 : decode cX4_init 5 = .ok (.iconst 0, 1) := by decide +kernel
theorem dX4_init_6 : decode cX4_init 6 = .ok (.putfield 9, 3) := by decide +kernel
theorem dX4_init_9 : decode cX4_init 9 = .ok (.aload_n 0, 1) := by decide +kernel
theorem dX4_init_10 : decode cX4_init 10 = .ok (.iconst 0, 1) := by decide +kernel
theorem dX4_init_11 : decode cX4_init 11 = .ok (.putfield 15, 3) := by decide +kernel
theorem dX4_init_14 : decode cX4_init 14 = .ok (.aload_n 0, 1) := by decide +kernel
theorem dX4_init_15 : decode cX4_init 15 = .ok (.iconst 0, 1) := by decide +kernel
theorem dX4_init_16 : decode cX4_init 16 = .ok (.putfield 18, 3) := by decide +kernel
theorem dX4_init_19 : decode cX4_init 19 = .ok (.aload_n 0, 1) := by decide +kernel
theorem dX4_init_20 : decode cX4_init 20 = .ok (.bipush 9, 2) := by decide +kernel
theorem dX4_init_22 : decode cX4_init 22 = .ok (.putfield 21, 3) := by decide +kernel
theorem dX4_init_25 : decode cX4_init 25 = .ok (.aload_n 0, 1) := by decide +kernel
theorem dX4_init_26 : decode cX4_init 26 = .ok (.iconst 0, 1) := by decide +kernel
theorem dX4_init_27 : decode cX4_init 27 = .ok (.putfield 24, 3) := by decide +kernel
theorem dX4_init_30 : decode cX4_init 30 = .ok (.aload_n 0, 1) := by decide +kernel
theorem dX4_init_31 : decode cX4_init 31 = .ok (.bipush 8, 2) := by decide +kernel
theorem dX4_init_33 : decode cX4_init 33 = .ok (.newarray .int, 2) := by decide +kernel
theorem dX4_init_35 : decode cX4_init 35 = .ok (.putfield 27, 3) := by decide +kernel
theorem dX4_init_38 : decode cX4_init 38 = .ok (.aload_n 0, 1) := by decide +kernel
theorem dX4_init_39 : decode cX4_init 39 = .ok (.bipush 8, 2) := by decide +kernel
theorem dX4_init_41 : decode cX4_init 41 = .ok (.newarray .int, 2) := by decide +kernel
theorem dX4_init_43 : decode cX4_init 43 = .ok (.putfield 31, 3) := by decide +kernel
theorem dX4_init_46 : decode cX4_init 46 = .ok (.aload_n 0, 1) := by decide +kernel
theorem dX4_init_47 : decode cX4_init 47 = .ok (.bipush 8, 2) := by decide +kernel
theorem dX4_init_49 : decode cX4_init 49 = .ok (.newarray .int, 2) := by decide +kernel
theorem dX4_init_51 : decode cX4_init 51 = .ok (.putfield 34, 3) := by decide +kernel
theorem dX4_init_54 : decode cX4_init 54 = .ok (.aload_n 0, 1) := by decide +kernel
theorem dX4_init_55 : decode cX4_init 55 = .ok (.bipush 8, 2) := by decide +kernel
theorem dX4_init_57 : decode cX4_init 57 = .ok (.newarray .int, 2) := by decide +kernel
theorem dX4_init_59 : decode cX4_init 59 = .ok (.putfield 37, 3) := by decide +kernel
theorem dX4_init_62 : decode cX4_init 62 = .ok (.aload_n 0, 1) := by decide +kernel
theorem dX4_init_63 : decode cX4_init 63 = .ok (.bipush 8, 2) := by decide +kernel
theorem dX4_init_65 : decode cX4_init 65 = .ok (.newarray .int, 2) := by decide +kernel
theorem dX4_init_67 : decode cX4_init 67 = .ok (.putfield 40, 3) := by decide +kernel
theorem dX4_init_70 : decode cX4_init 70 = .ok (.aload_n 0, 1) := by decide +kernel
theorem dX4_init_71 : decode cX4_init 71 = .ok (.bipush 8, 2) := by decide +kernel
theorem dX4_init_73 : decode cX4_init 73 = .ok (.newarray .int, 2) := by decide +kernel
theorem dX4_init_75 : decode cX4_init 75 = .ok (.putfield 43, 3) := by decide +kernel
theorem dX4_init_78 : decode cX4_init 78 = .ok (.aload_n 0, 1) := by decide +kernel
theorem dX4_init_79 : decode cX4_init 79 = .ok (.bipush 6, 2) := by decide +kernel
theorem dX4_init_81 : decode cX4_init 81 = .ok (.newarray .int, 2) := by decide +kernel
theorem dX4_init_83 : decode cX4_init 83 = .ok (.putfield 46, 3) := by decide +kernel
theorem dX4_init_86 : decode cX4_init 86 = .ok (.aload_n 0, 1) := by decide +kernel
theorem dX4_init_87 : decode cX4_init 87 = .ok (.bipush 6, 2) := by decide +kernel
theorem dX4_init_89 : decode cX4_init 89 = .ok (.newarray .int, 2) := by decide +kernel
theorem dX4_init_91 : decode cX4_init 91 = .ok (.putfield 49, 3) := by decide +kernel
theorem dX4_init_94 : decode cX4_init 94 = .ok (.aload_n 0, 1) := by decide +kernel
theorem dX4_init_95 : decode cX4_init 95 = .ok (.bipush 6, 2) := by decide +kernel
theorem dX4_init_97 : decode cX4_init 97 = .ok (.newarray .int, 2) := by decide +kernel
theorem dX4_init_99 : decode cX4_init 99 = .ok (.putfield 52, 3) := by decide +kernel
theorem dX4_init_102 : decode cX4_init 102 = .ok (.aload_n 0, 1) := by decide +kernel
theorem dX4_init_103 : decode cX4_init 103 = .ok (.bipush 6, 2) := by decide +kernel
theorem dX4_init_105 : decode cX4_init 105 = .ok (.newarray .int, 2) := by decide +kernel
theorem dX4_init_107 : decode cX4_init 107 = .ok (.putfield 55, 3) := by decide +kernel
theorem dX4_init_110 : decode cX4_init 110 = .ok (.return_, 1) := by decide +kernel
theorem dX4_tellMen_0 : decode cX4_tellMen 0 = .ok (.aload_n 0, 1) := by decide +kernel
theorem dX4_tellMen_1 : decode cX4_tellMen 1 = .ok (.bipush 8, 2) := by decide +kernel
theorem dX4_tellMen_3 : decode cX4_tellMen 3 = .ok (.aload_n 1, 1) := by decide +kernel
theorem dX4_tellMen_4 : decode cX4_tellMen 4 = .ok (.invokevirtual 58, 3) := by decide +kernel
theorem dX4_tellMen_7 : decode cX4_tellMen 7 = .ok (.invokestatic 64, 3) := by decide +kernel
theorem dX4_tellMen_10 : decode cX4_tellMen 10 = .ok (.putfield 9, 3) := by decide +kernel
theorem dX4_tellMen_13 : decode cX4_tellMen 13 = .ok (.iconst 0, 1) := by decide +kernel
theorem dX4_tellMen_14 : decode cX4_tellMen 14 = .ok (.istore_n 2, 1) := by decide +kernel
theorem dX4_tellMen_15 : decode cX4_tellMen 15 = .ok (.iload_n 2, 1) := by decide +kernel
theorem dX4_tellMen_16 : decode cX4_tellMen 16 = .ok (.aload_n 0, 1) := by decide +kernel
theorem dX4_tellMen_17 : decode cX4_tellMen 17 = .ok (.getfield 9, 3) := by decide +kernel
theorem dX4_tellMen_20 : decode cX4_tellMen 20 = .ok (.if_icmp .ge 60, 3) := by decide +kernel
theorem dX4_tellMen_23 : decode cX4_tellMen 23 = .ok (.aload_n 0, 1) := by decide +kernel
theorem dX4_tellMen_24 : decode cX4_tellMen 24 = .ok (.getfield 27, 3) := by decide +kernel
theorem dX4_tellMen_27 : decode cX4_tellMen 27 = .ok (.iload_n 2, 1) := by decide +kernel
theorem dX4_tellMen_28 : decode cX4_tellMen 28 = .ok (.aload_n 1, 1) := by decide +kernel
theorem dX4_tellMen_29 : decode cX4_tellMen 29 = .ok (.iload_n 2, 1) := by decide +kernel
theorem dX4_tellMen_30 : decode cX4_tellMen 30 = .ok (.iconst 0, 1) := by decide +kernel
theorem dX4_tellMen_31 : decode cX4_tellMen 31 = .ok (.invokevirtual 70, 3) := by decide +kernel
theorem dX4_tellMen_34 : decode cX4_tellMen 34 = .ok (.invokestatic 74, 3) := by decide +kernel
theorem dX4_tellMen_37 : decode cX4_tellMen 37 = .ok (.iastore, 1) := by decide +kernel
theorem dX4_tellMen_38 : decode cX4_tellMen 38 = .ok (.aload_n 0, 1) := by decide +kernel
theorem dX4_tellMen_39 : decode cX4_tellMen 39 = .ok (.getfield 31, 3) := by decide +kernel
theorem dX4_tellMen_42 : decode cX4_tellMen 42 = .ok (.iload_n 2, 1) := by decide +kernel
theorem dX4_tellMen_43 : decode cX4_tellMen 43 = .ok (.aload_n 1, 1) := by decide +kernel
theorem dX4_tellMen_44 : decode cX4_tellMen 44 = .ok (.iload_n 2, 1) := by decide +kernel
theorem dX4_tellMen_45 : decode cX4_tellMen 45 = .ok (.iconst 1, 1) := by decide +kernel
theorem dX4_tellMen_46 : decode cX4_tellMen 46 = .ok (.invokevirtual 78, 3) := by decide +kernel
theorem dX4_tellMen_49 : decode cX4_tellMen 49 = .ok (.iastore, 1) := by decide +kernel
theorem dX4_tellMen_50 : decode cX4_tellMen 50 = .ok (.aload_n 0, 1) := by decide +kernel
theorem dX4_tellMen_51 : decode cX4_tellMen 51 = .ok (.getfield 34, 3) := by decide +kernel
theorem dX4_tellMen_54 : decode cX4_tellMen 54 = .ok (.iload_n 2, 1) := by decide +kernel
theorem dX4_tellMen_55 : decode cX4_tellMen 55 = .ok (.aload_n 1, 1) := by decide +kernel
theorem dX4_tellMen_56 : decode cX4_tellMen 56 = .ok (.iload_n 2, 1) := by decide +kernel
theorem dX4_tellMen_57 : decode cX4_tellMen 57 = .ok (.iconst 2, 1) := by decide +kernel
theorem dX4_tellMen_58 : decode cX4_tellMen 58 = .ok (.invokevirtual 78, 3) := by decide +kernel
theorem dX4_tellMen_61 : decode cX4_tellMen 61 = .ok (.iastore, 1) := by decide +kernel
theorem dX4_tellMen_62 : decode cX4_tellMen 62 = .ok (.aload_n 0, 1) := by decide +kernel
theorem dX4_tellMen_63 : decode cX4_tellMen 63 = .ok (.getfield 37, 3) := by decide +kernel
theorem dX4_tellMen_66 : decode cX4_tellMen 66 = .ok (.iload_n 2, 1) := by decide +kernel
theorem dX4_tellMen_67 : decode cX4_tellMen 67 = .ok (.aload_n 1, 1) := by decide +kernel
theorem dX4_tellMen_68 : decode cX4_tellMen 68 = .ok (.iload_n 2, 1) := by decide +kernel
theorem dX4_tellMen_69 : decode cX4_tellMen 69 = .ok (.iconst 3, 1) := by decide +kernel
theorem dX4_tellMen_70 : decode cX4_tellMen 70 = .ok (.invokevirtual 78, 3) := by decide +kernel
theorem dX4_tellMen_73 : decode cX4_tellMen 73 = .ok (.iastore, 1) := by decide +kernel
theorem dX4_tellMen_74 : decode cX4_tellMen 74 = .ok (.iinc 2 1, 3) := by decide +kernel
theorem dX4_tellMen_77 : decode cX4_tellMen 77 = .ok (.goto (-62), 3) := by decide +kernel
theorem dX4_tellMen_80 : decode cX4_tellMen 80 = .ok (.return_, 1) := by decide +kernel
theorem dX4_tellInns_0 : decode cX4_tellInns 0 = .ok (.aload_n 0, 1) := by decide +kernel
theorem dX4_tellInns_1 : decode cX4_tellInns 1 = .ok (.bipush 8, 2) := by decide +kernel
theorem dX4_tellInns_3 : decode cX4_tellInns 3 = .ok (.aload_n 1, 1) := by decide +kernel
theorem dX4_tellInns_4 : decode cX4_tellInns 4 = .ok (.invokevirtual 58, 3) := by decide +kernel
theorem dX4_tellInns_7 : decode cX4_tellInns 7 = .ok (.invokestatic 64, 3) := by decide +kernel
theorem dX4_tellInns_10 : decode cX4_tellInns 10 = .ok (.putfield 15, 3) := by decide +kernel
theorem dX4_tellInns_13 : decode cX4_tellInns 13 = .ok (.iconst 0, 1) := by decide +kernel
theorem dX4_tellInns_14 : decode cX4_tellInns 14 = .ok (.istore_n 2, 1) := by decide +kernel
theorem dX4_tellInns_15 : decode cX4_tellInns 15 = .ok (.iload_n 2, 1) := by decide +kernel
theorem dX4_tellInns_16 : decode cX4_tellInns 16 = .ok (.aload_n 0, 1) := by decide +kernel
theorem dX4_tellInns_17 : decode cX4_tellInns 17 = .ok (.getfield 15, 3) := by decide +kernel
theorem dX4_tellInns_20 : decode cX4_tellInns 20 = .ok (.if_icmp .ge 33, 3) := by decide +kernel
theorem dX4_tellInns_23 : decode cX4_tellInns 23 = .ok (.aload_n 0, 1) := by decide +kernel
theorem dX4_tellInns_24 : decode cX4_tellInns 24 = .ok (.getfield 40, 3) := by decide +kernel
theorem dX4_tellInns_27 : decode cX4_tellInns 27 = .ok (.iload_n 2, 1) := by decide +kernel
theorem dX4_tellInns_28 : decode cX4_tellInns 28 = .ok (.aload_n 1, 1) := by decide +kernel
theorem dX4_tellInns_29 : decode cX4_tellInns 29 = .ok (.iload_n 2, 1) := by decide +kernel
theorem dX4_tellInns_30 : decode cX4_tellInns 30 = .ok (.iconst 0, 1) := by decide +kernel
theorem dX4_tellInns_31 : decode cX4_tellInns 31 = .ok (.invokevirtual 78, 3) := by decide +kernel
theorem dX4_tellInns_34 : decode cX4_tellInns 34 = .ok (.iastore, 1) := by decide +kernel
theorem dX4_tellInns_35 : decode cX4_tellInns 35 = .ok (.aload_n 0, 1) := by decide +kernel
theorem dX4_tellInns_36 : decode cX4_tellInns 36 = .ok (.getfield 43, 3) := by decide +kernel
theorem dX4_tellInns_39 : decode cX4_tellInns 39 = .ok (.iload_n 2, 1) := by decide +kernel
theorem dX4_tellInns_40 : decode cX4_tellInns 40 = .ok (.aload_n 1, 1) := by decide +kernel
theorem dX4_tellInns_41 : decode cX4_tellInns 41 = .ok (.iload_n 2, 1) := by decide +kernel
theorem dX4_tellInns_42 : decode cX4_tellInns 42 = .ok (.iconst 1, 1) := by decide +kernel
theorem dX4_tellInns_43 : decode cX4_tellInns 43 = .ok (.invokevirtual 78, 3) := by decide +kernel
theorem dX4_tellInns_46 : decode cX4_tellInns 46 = .ok (.iastore, 1) := by decide +kernel
theorem dX4_tellInns_47 : decode cX4_tellInns 47 = .ok (.iinc 2 1, 3) := by decide +kernel
theorem dX4_tellInns_50 : decode cX4_tellInns 50 = .ok (.goto (-35), 3) := by decide +kernel
theorem dX4_tellInns_53 : decode cX4_tellInns 53 = .ok (.return_, 1) := by decide +kernel
theorem dX4_tellFleet_0 : decode cX4_tellFleet 0 = .ok (.aload_n 0, 1) := by decide +kernel
theorem dX4_tellFleet_1 : decode cX4_tellFleet 1 = .ok (.bipush 6, 2) := by decide +kernel
theorem dX4_tellFleet_3 : decode cX4_tellFleet 3 = .ok (.aload_n 1, 1) := by decide +kernel
theorem dX4_tellFleet_4 : decode cX4_tellFleet 4 = .ok (.invokevirtual 58, 3) := by decide +kernel
theorem dX4_tellFleet_7 : decode cX4_tellFleet 7 = .ok (.invokestatic 64, 3) := by decide +kernel
theorem dX4_tellFleet_10 : decode cX4_tellFleet 10 = .ok (.putfield 18, 3) := by decide +kernel
theorem dX4_tellFleet_13 : decode cX4_tellFleet 13 = .ok (.iconst 0, 1) := by decide +kernel
theorem dX4_tellFleet_14 : decode cX4_tellFleet 14 = .ok (.istore_n 2, 1) := by decide +kernel
theorem dX4_tellFleet_15 : decode cX4_tellFleet 15 = .ok (.iload_n 2, 1) := by decide +kernel
theorem dX4_tellFleet_16 : decode cX4_tellFleet 16 = .ok (.aload_n 0, 1) := by decide +kernel
theorem dX4_tellFleet_17 : decode cX4_tellFleet 17 = .ok (.getfield 18, 3) := by decide +kernel
theorem dX4_tellFleet_20 : decode cX4_tellFleet 20 = .ok (.if_icmp .ge 67, 3) := by decide +kernel
theorem dX4_tellFleet_23 : decode cX4_tellFleet 23 = .ok (.aload_n 0, 1) := by decide +kernel
theorem dX4_tellFleet_24 : decode cX4_tellFleet 24 = .ok (.getfield 46, 3) := by decide +kernel
theorem dX4_tellFleet_27 : decode cX4_tellFleet 27 = .ok (.iload_n 2, 1) := by decide +kernel
theorem dX4_tellFleet_28 : decode cX4_tellFleet 28 = .ok (.bipush 10, 2) := by decide +kernel
theorem dX4_tellFleet_30 : decode cX4_tellFleet 30 = .ok (.aload_n 1, 1) := by decide +kernel
theorem dX4_tellFleet_31 : decode cX4_tellFleet 31 = .ok (.iload_n 2, 1) := by decide +kernel
theorem dX4_tellFleet_32 : decode cX4_tellFleet 32 = .ok (.iconst 0, 1) := by decide +kernel
theorem dX4_tellFleet_33 : decode cX4_tellFleet 33 = .ok (.invokevirtual 78, 3) := by decide +kernel
theorem dX4_tellFleet_36 : decode cX4_tellFleet 36 = .ok (.imul, 1) := by decide +kernel
theorem dX4_tellFleet_37 : decode cX4_tellFleet 37 = .ok (.aload_n 1, 1) := by decide +kernel
theorem dX4_tellFleet_38 : decode cX4_tellFleet 38 = .ok (.iload_n 2, 1) := by decide +kernel
theorem dX4_tellFleet_39 : decode cX4_tellFleet 39 = .ok (.iconst 1, 1) := by decide +kernel
theorem dX4_tellFleet_40 : decode cX4_tellFleet 40 = .ok (.invokevirtual 78, 3) := by decide +kernel
theorem dX4_tellFleet_43 : decode cX4_tellFleet 43 = .ok (.iadd, 1) := by decide +kernel
theorem dX4_tellFleet_44 : decode cX4_tellFleet 44 = .ok (.iastore, 1) := by decide +kernel
theorem dX4_tellFleet_45 : decode cX4_tellFleet 45 = .ok (.aload_n 0, 1) := by decide +kernel
theorem dX4_tellFleet_46 : decode cX4_tellFleet 46 = .ok (.getfield 49, 3) := by decide +kernel
theorem dX4_tellFleet_49 : decode cX4_tellFleet 49 = .ok (.iload_n 2, 1) := by decide +kernel
theorem dX4_tellFleet_50 : decode cX4_tellFleet 50 = .ok (.aload_n 1, 1) := by decide +kernel
theorem dX4_tellFleet_51 : decode cX4_tellFleet 51 = .ok (.iload_n 2, 1) := by decide +kernel
theorem dX4_tellFleet_52 : decode cX4_tellFleet 52 = .ok (.iconst 2, 1) := by decide +kernel
theorem dX4_tellFleet_53 : decode cX4_tellFleet 53 = .ok (.invokevirtual 78, 3) := by decide +kernel
theorem dX4_tellFleet_56 : decode cX4_tellFleet 56 = .ok (.iastore, 1) := by decide +kernel
theorem dX4_tellFleet_57 : decode cX4_tellFleet 57 = .ok (.aload_n 0, 1) := by decide +kernel
theorem dX4_tellFleet_58 : decode cX4_tellFleet 58 = .ok (.getfield 52, 3) := by decide +kernel
theorem dX4_tellFleet_61 : decode cX4_tellFleet 61 = .ok (.iload_n 2, 1) := by decide +kernel
theorem dX4_tellFleet_62 : decode cX4_tellFleet 62 = .ok (.aload_n 1, 1) := by decide +kernel
theorem dX4_tellFleet_63 : decode cX4_tellFleet 63 = .ok (.iload_n 2, 1) := by decide +kernel
theorem dX4_tellFleet_64 : decode cX4_tellFleet 64 = .ok (.iconst 3, 1) := by decide +kernel
theorem dX4_tellFleet_65 : decode cX4_tellFleet 65 = .ok (.invokevirtual 78, 3) := by decide +kernel
theorem dX4_tellFleet_68 : decode cX4_tellFleet 68 = .ok (.iastore, 1) := by decide +kernel
theorem dX4_tellFleet_69 : decode cX4_tellFleet 69 = .ok (.aload_n 0, 1) := by decide +kernel
theorem dX4_tellFleet_70 : decode cX4_tellFleet 70 = .ok (.getfield 55, 3) := by decide +kernel
theorem dX4_tellFleet_73 : decode cX4_tellFleet 73 = .ok (.iload_n 2, 1) := by decide +kernel
theorem dX4_tellFleet_74 : decode cX4_tellFleet 74 = .ok (.aload_n 1, 1) := by decide +kernel
theorem dX4_tellFleet_75 : decode cX4_tellFleet 75 = .ok (.iload_n 2, 1) := by decide +kernel
theorem dX4_tellFleet_76 : decode cX4_tellFleet 76 = .ok (.iconst 4, 1) := by decide +kernel
theorem dX4_tellFleet_77 : decode cX4_tellFleet 77 = .ok (.invokevirtual 78, 3) := by decide +kernel
theorem dX4_tellFleet_80 : decode cX4_tellFleet 80 = .ok (.iastore, 1) := by decide +kernel
theorem dX4_tellFleet_81 : decode cX4_tellFleet 81 = .ok (.iinc 2 1, 3) := by decide +kernel
theorem dX4_tellFleet_84 : decode cX4_tellFleet 84 = .ok (.goto (-69), 3) := by decide +kernel
theorem dX4_tellFleet_87 : decode cX4_tellFleet 87 = .ok (.return_, 1) := by decide +kernel
theorem dX4_become_0 : decode cX4_become 0 = .ok (.aload_n 0, 1) := by decide +kernel
theorem dX4_become_1 : decode cX4_become 1 = .ok (.aload_n 1, 1) := by decide +kernel
theorem dX4_become_2 : decode cX4_become 2 = .ok (.getfield 9, 3) := by decide +kernel
theorem dX4_become_5 : decode cX4_become 5 = .ok (.putfield 9, 3) := by decide +kernel
theorem dX4_become_8 : decode cX4_become 8 = .ok (.aload_n 0, 1) := by decide +kernel
theorem dX4_become_9 : decode cX4_become 9 = .ok (.aload_n 1, 1) := by decide +kernel
theorem dX4_become_10 : decode cX4_become 10 = .ok (.getfield 15, 3) := by decide +kernel
theorem dX4_become_13 : decode cX4_become 13 = .ok (.putfield 15, 3) := by decide +kernel
theorem dX4_become_16 : decode cX4_become 16 = .ok (.aload_n 0, 1) := by decide +kernel
theorem dX4_become_17 : decode cX4_become 17 = .ok (.aload_n 1, 1) := by decide +kernel
theorem dX4_become_18 : decode cX4_become 18 = .ok (.getfield 18, 3) := by decide +kernel
theorem dX4_become_21 : decode cX4_become 21 = .ok (.putfield 18, 3) := by decide +kernel
theorem dX4_become_24 : decode cX4_become 24 = .ok (.aload_n 0, 1) := by decide +kernel
theorem dX4_become_25 : decode cX4_become 25 = .ok (.aload_n 1, 1) := by decide +kernel
theorem dX4_become_26 : decode cX4_become 26 = .ok (.getfield 21, 3) := by decide +kernel
theorem dX4_become_29 : decode cX4_become 29 = .ok (.putfield 21, 3) := by decide +kernel
theorem dX4_become_32 : decode cX4_become 32 = .ok (.aload_n 0, 1) := by decide +kernel
theorem dX4_become_33 : decode cX4_become 33 = .ok (.aload_n 1, 1) := by decide +kernel
theorem dX4_become_34 : decode cX4_become 34 = .ok (.getfield 24, 3) := by decide +kernel
theorem dX4_become_37 : decode cX4_become 37 = .ok (.putfield 24, 3) := by decide +kernel
theorem dX4_become_40 : decode cX4_become 40 = .ok (.aload_n 1, 1) := by decide +kernel
theorem dX4_become_41 : decode cX4_become 41 = .ok (.getfield 27, 3) := by decide +kernel
theorem dX4_become_44 : decode cX4_become 44 = .ok (.iconst 0, 1) := by decide +kernel
theorem dX4_become_45 : decode cX4_become 45 = .ok (.aload_n 0, 1) := by decide +kernel
theorem dX4_become_46 : decode cX4_become 46 = .ok (.getfield 27, 3) := by decide +kernel
theorem dX4_become_49 : decode cX4_become 49 = .ok (.iconst 0, 1) := by decide +kernel
theorem dX4_become_50 : decode cX4_become 50 = .ok (.bipush 8, 2) := by decide +kernel
theorem dX4_become_52 : decode cX4_become 52 = .ok (.invokestatic 81, 3) := by decide +kernel
theorem dX4_become_55 : decode cX4_become 55 = .ok (.aload_n 1, 1) := by decide +kernel
theorem dX4_become_56 : decode cX4_become 56 = .ok (.getfield 31, 3) := by decide +kernel
theorem dX4_become_59 : decode cX4_become 59 = .ok (.iconst 0, 1) := by decide +kernel
theorem dX4_become_60 : decode cX4_become 60 = .ok (.aload_n 0, 1) := by decide +kernel
theorem dX4_become_61 : decode cX4_become 61 = .ok (.getfield 31, 3) := by decide +kernel
theorem dX4_become_64 : decode cX4_become 64 = .ok (.iconst 0, 1) := by decide +kernel
theorem dX4_become_65 : decode cX4_become 65 = .ok (.bipush 8, 2) := by decide +kernel
theorem dX4_become_67 : decode cX4_become 67 = .ok (.invokestatic 81, 3) := by decide +kernel
theorem dX4_become_70 : decode cX4_become 70 = .ok (.aload_n 1, 1) := by decide +kernel
theorem dX4_become_71 : decode cX4_become 71 = .ok (.getfield 34, 3) := by decide +kernel
theorem dX4_become_74 : decode cX4_become 74 = .ok (.iconst 0, 1) := by decide +kernel
theorem dX4_become_75 : decode cX4_become 75 = .ok (.aload_n 0, 1) := by decide +kernel
theorem dX4_become_76 : decode cX4_become 76 = .ok (.getfield 34, 3) := by decide +kernel
theorem dX4_become_79 : decode cX4_become 79 = .ok (.iconst 0, 1) := by decide +kernel
theorem dX4_become_80 : decode cX4_become 80 = .ok (.bipush 8, 2) := by decide +kernel
theorem dX4_become_82 : decode cX4_become 82 = .ok (.invokestatic 81, 3) := by decide +kernel
theorem dX4_become_85 : decode cX4_become 85 = .ok (.aload_n 1, 1) := by decide +kernel
theorem dX4_become_86 : decode cX4_become 86 = .ok (.getfield 37, 3) := by decide +kernel
theorem dX4_become_89 : decode cX4_become 89 = .ok (.iconst 0, 1) := by decide +kernel
theorem dX4_become_90 : decode cX4_become 90 = .ok (.aload_n 0, 1) := by decide +kernel
theorem dX4_become_91 : decode cX4_become 91 = .ok (.getfield 37, 3) := by decide +kernel
theorem dX4_become_94 : decode cX4_become 94 = .ok (.iconst 0, 1) := by decide +kernel
theorem dX4_become_95 : decode cX4_become 95 = .ok (.bipush 8, 2) := by decide +kernel
theorem dX4_become_97 : decode cX4_become 97 = .ok (.invokestatic 81, 3) := by decide +kernel
theorem dX4_become_100 : decode cX4_become 100 = .ok (.aload_n 1, 1) := by decide +kernel
theorem dX4_become_101 : decode cX4_become 101 = .ok (.getfield 40, 3) := by decide +kernel
theorem dX4_become_104 : decode cX4_become 104 = .ok (.iconst 0, 1) := by decide +kernel
theorem dX4_become_105 : decode cX4_become 105 = .ok (.aload_n 0, 1) := by decide +kernel
theorem dX4_become_106 : decode cX4_become 106 = .ok (.getfield 40, 3) := by decide +kernel
theorem dX4_become_109 : decode cX4_become 109 = .ok (.iconst 0, 1) := by decide +kernel
theorem dX4_become_110 : decode cX4_become 110 = .ok (.bipush 8, 2) := by decide +kernel
theorem dX4_become_112 : decode cX4_become 112 = .ok (.invokestatic 81, 3) := by decide +kernel
theorem dX4_become_115 : decode cX4_become 115 = .ok (.aload_n 1, 1) := by decide +kernel
theorem dX4_become_116 : decode cX4_become 116 = .ok (.getfield 43, 3) := by decide +kernel
theorem dX4_become_119 : decode cX4_become 119 = .ok (.iconst 0, 1) := by decide +kernel
theorem dX4_become_120 : decode cX4_become 120 = .ok (.aload_n 0, 1) := by decide +kernel
theorem dX4_become_121 : decode cX4_become 121 = .ok (.getfield 43, 3) := by decide +kernel
theorem dX4_become_124 : decode cX4_become 124 = .ok (.iconst 0, 1) := by decide +kernel
theorem dX4_become_125 : decode cX4_become 125 = .ok (.bipush 8, 2) := by decide +kernel
theorem dX4_become_127 : decode cX4_become 127 = .ok (.invokestatic 81, 3) := by decide +kernel
theorem dX4_become_130 : decode cX4_become 130 = .ok (.aload_n 1, 1) := by decide +kernel
theorem dX4_become_131 : decode cX4_become 131 = .ok (.getfield 46, 3) := by decide +kernel
theorem dX4_become_134 : decode cX4_become 134 = .ok (.iconst 0, 1) := by decide +kernel
theorem dX4_become_135 : decode cX4_become 135 = .ok (.aload_n 0, 1) := by decide +kernel
theorem dX4_become_136 : decode cX4_become 136 = .ok (.getfield 46, 3) := by decide +kernel
theorem dX4_become_139 : decode cX4_become 139 = .ok (.iconst 0, 1) := by decide +kernel
theorem dX4_become_140 : decode cX4_become 140 = .ok (.bipush 6, 2) := by decide +kernel
theorem dX4_become_142 : decode cX4_become 142 = .ok (.invokestatic 81, 3) := by decide +kernel
theorem dX4_become_145 : decode cX4_become 145 = .ok (.aload_n 1, 1) := by decide +kernel
theorem dX4_become_146 : decode cX4_become 146 = .ok (.getfield 49, 3) := by decide +kernel
theorem dX4_become_149 : decode cX4_become 149 = .ok (.iconst 0, 1) := by decide +kernel
theorem dX4_become_150 : decode cX4_become 150 = .ok (.aload_n 0, 1) := by decide +kernel
theorem dX4_become_151 : decode cX4_become 151 = .ok (.getfield 49, 3) := by decide +kernel
theorem dX4_become_154 : decode cX4_become 154 = .ok (.iconst 0, 1) := by decide +kernel
theorem dX4_become_155 : decode cX4_become 155 = .ok (.bipush 6, 2) := by decide +kernel
theorem dX4_become_157 : decode cX4_become 157 = .ok (.invokestatic 81, 3) := by decide +kernel
theorem dX4_become_160 : decode cX4_become 160 = .ok (.aload_n 1, 1) := by decide +kernel
theorem dX4_become_161 : decode cX4_become 161 = .ok (.getfield 52, 3) := by decide +kernel
theorem dX4_become_164 : decode cX4_become 164 = .ok (.iconst 0, 1) := by decide +kernel
theorem dX4_become_165 : decode cX4_become 165 = .ok (.aload_n 0, 1) := by decide +kernel
theorem dX4_become_166 : decode cX4_become 166 = .ok (.getfield 52, 3) := by decide +kernel
theorem dX4_become_169 : decode cX4_become 169 = .ok (.iconst 0, 1) := by decide +kernel
theorem dX4_become_170 : decode cX4_become 170 = .ok (.bipush 6, 2) := by decide +kernel
theorem dX4_become_172 : decode cX4_become 172 = .ok (.invokestatic 81, 3) := by decide +kernel
theorem dX4_become_175 : decode cX4_become 175 = .ok (.aload_n 1, 1) := by decide +kernel
theorem dX4_become_176 : decode cX4_become 176 = .ok (.getfield 55, 3) := by decide +kernel
theorem dX4_become_179 : decode cX4_become 179 = .ok (.iconst 0, 1) := by decide +kernel
theorem dX4_become_180 : decode cX4_become 180 = .ok (.aload_n 0, 1) := by decide +kernel
theorem dX4_become_181 : decode cX4_become 181 = .ok (.getfield 55, 3) := by decide +kernel
theorem dX4_become_184 : decode cX4_become 184 = .ok (.iconst 0, 1) := by decide +kernel
theorem dX4_become_185 : decode cX4_become 185 = .ok (.bipush 6, 2) := by decide +kernel
theorem dX4_become_187 : decode cX4_become 187 = .ok (.invokestatic 81, 3) := by decide +kernel
theorem dX4_become_190 : decode cX4_become 190 = .ok (.return_, 1) := by decide +kernel
theorem dX4_comes_0 : decode cX4_comes 0 = .ok (.aload_n 0, 1) := by decide +kernel
theorem dX4_comes_1 : decode cX4_comes 1 = .ok (.getfield 46, 3) := by decide +kernel
theorem dX4_comes_4 : decode cX4_comes 4 = .ok (.iload_n 1, 1) := by decide +kernel
theorem dX4_comes_5 : decode cX4_comes 5 = .ok (.iaload, 1) := by decide +kernel
theorem dX4_comes_6 : decode cX4_comes 6 = .ok (.iload_n 2, 1) := by decide +kernel
theorem dX4_comes_7 : decode cX4_comes 7 = .ok (.if_icmp .ne 18, 3) := by decide +kernel
theorem dX4_comes_10 : decode cX4_comes 10 = .ok (.aload_n 0, 1) := by decide +kernel
theorem dX4_comes_11 : decode cX4_comes 11 = .ok (.getfield 24, 3) := by decide +kernel
theorem dX4_comes_14 : decode cX4_comes 14 = .ok (.iload_n 1, 1) := by decide +kernel
theorem dX4_comes_15 : decode cX4_comes 15 = .ok (.ishr, 1) := by decide +kernel
theorem dX4_comes_16 : decode cX4_comes 16 = .ok (.iconst 1, 1) := by decide +kernel
theorem dX4_comes_17 : decode cX4_comes 17 = .ok (.iand, 1) := by decide +kernel
theorem dX4_comes_18 : decode cX4_comes 18 = .ok (.ifCond .ne 7, 3) := by decide +kernel
theorem dX4_comes_21 : decode cX4_comes 21 = .ok (.iconst 1, 1) := by decide +kernel
theorem dX4_comes_22 : decode cX4_comes 22 = .ok (.goto 4, 3) := by decide +kernel
theorem dX4_comes_25 : decode cX4_comes 25 = .ok (.iconst 0, 1) := by decide +kernel
theorem dX4_comes_26 : decode cX4_comes 26 = .ok (.ireturn, 1) := by decide +kernel
theorem dX4_isSound_0 : decode cX4_isSound 0 = .ok (.aload_n 0, 1) := by decide +kernel
theorem dX4_isSound_1 : decode cX4_isSound 1 = .ok (.getfield 27, 3) := by decide +kernel
theorem dX4_isSound_4 : decode cX4_isSound 4 = .ok (.iload_n 1, 1) := by decide +kernel
theorem dX4_isSound_5 : decode cX4_isSound 5 = .ok (.iaload, 1) := by decide +kernel
theorem dX4_isSound_6 : decode cX4_isSound 6 = .ok (.iconst 2, 1) := by decide +kernel
theorem dX4_isSound_7 : decode cX4_isSound 7 = .ok (.if_icmp .eq 17, 3) := by decide +kernel
theorem dX4_isSound_10 : decode cX4_isSound 10 = .ok (.aload_n 0, 1) := by decide +kernel
theorem dX4_isSound_11 : decode cX4_isSound 11 = .ok (.getfield 27, 3) := by decide +kernel
theorem dX4_isSound_14 : decode cX4_isSound 14 = .ok (.iload_n 1, 1) := by decide +kernel
theorem dX4_isSound_15 : decode cX4_isSound 15 = .ok (.iaload, 1) := by decide +kernel
theorem dX4_isSound_16 : decode cX4_isSound 16 = .ok (.iconst 3, 1) := by decide +kernel
theorem dX4_isSound_17 : decode cX4_isSound 17 = .ok (.if_icmp .eq 7, 3) := by decide +kernel
theorem dX4_isSound_20 : decode cX4_isSound 20 = .ok (.iconst 1, 1) := by decide +kernel
theorem dX4_isSound_21 : decode cX4_isSound 21 = .ok (.goto 4, 3) := by decide +kernel
theorem dX4_isSound_24 : decode cX4_isSound 24 = .ok (.iconst 0, 1) := by decide +kernel
theorem dX4_isSound_25 : decode cX4_isSound 25 = .ok (.ireturn, 1) := by decide +kernel
theorem dX4_costOf_0 : decode cX4_costOf 0 = .ok (.aload_n 0, 1) := by decide +kernel
theorem dX4_costOf_1 : decode cX4_costOf 1 = .ok (.getfield 27, 3) := by decide +kernel
theorem dX4_costOf_4 : decode cX4_costOf 4 = .ok (.iload_n 1, 1) := by decide +kernel
theorem dX4_costOf_5 : decode cX4_costOf 5 = .ok (.iaload, 1) := by decide +kernel
theorem dX4_costOf_6 : decode cX4_costOf 6 = .ok (.lookupswitch 37 #[(1, 26), (3, 35)], 26) := by decide +kernel
theorem dX4_costOf_32 : decode cX4_costOf 32 = .ok (.iconst 2, 1) := by decide +kernel
theorem dX4_costOf_33 : decode cX4_costOf 33 = .ok (.aload_n 0, 1) := by decide +kernel
theorem dX4_costOf_34 : decode cX4_costOf 34 = .ok (.getfield 40, 3) := by decide +kernel
theorem dX4_costOf_37 : decode cX4_costOf 37 = .ok (.iload_n 2, 1) := by decide +kernel
theorem dX4_costOf_38 : decode cX4_costOf 38 = .ok (.iaload, 1) := by decide +kernel
theorem dX4_costOf_39 : decode cX4_costOf 39 = .ok (.imul, 1) := by decide +kernel
theorem dX4_costOf_40 : decode cX4_costOf 40 = .ok (.ireturn, 1) := by decide +kernel
theorem dX4_costOf_41 : decode cX4_costOf 41 = .ok (.iconst 0, 1) := by decide +kernel
theorem dX4_costOf_42 : decode cX4_costOf 42 = .ok (.ireturn, 1) := by decide +kernel
theorem dX4_costOf_43 : decode cX4_costOf 43 = .ok (.aload_n 0, 1) := by decide +kernel
theorem dX4_costOf_44 : decode cX4_costOf 44 = .ok (.getfield 40, 3) := by decide +kernel
theorem dX4_costOf_47 : decode cX4_costOf 47 = .ok (.iload_n 2, 1) := by decide +kernel
theorem dX4_costOf_48 : decode cX4_costOf 48 = .ok (.iaload, 1) := by decide +kernel
theorem dX4_costOf_49 : decode cX4_costOf 49 = .ok (.aload_n 0, 1) := by decide +kernel
theorem dX4_costOf_50 : decode cX4_costOf 50 = .ok (.getfield 31, 3) := by decide +kernel
theorem dX4_costOf_53 : decode cX4_costOf 53 = .ok (.iload_n 1, 1) := by decide +kernel
theorem dX4_costOf_54 : decode cX4_costOf 54 = .ok (.iaload, 1) := by decide +kernel
theorem dX4_costOf_55 : decode cX4_costOf 55 = .ok (.iadd, 1) := by decide +kernel
theorem dX4_costOf_56 : decode cX4_costOf 56 = .ok (.ireturn, 1) := by decide +kernel
theorem dJ0_length_8abf5_0 : decode cJ0_length_8abf5 0 = .ok (.aload_n 0, 1) := by decide +kernel
theorem dJ0_length_8abf5_1 : decode cJ0_length_8abf5 1 = .ok (.getfield 9, 3) := by decide +kernel
theorem dJ0_length_8abf5_4 : decode cJ0_length_8abf5 4 = .ok (.arraylength, 1) := by decide +kernel
theorem dJ0_length_8abf5_5 : decode cJ0_length_8abf5 5 = .ok (.aload_n 0, 1) := by decide +kernel
theorem dJ0_length_8abf5_6 : decode cJ0_length_8abf5 6 = .ok (.invokevirtual 335, 3) := by decide +kernel
theorem dJ0_length_8abf5_9 : decode cJ0_length_8abf5 9 = .ok (.ishr, 1) := by decide +kernel
theorem dJ0_length_8abf5_10 : decode cJ0_length_8abf5 10 = .ok (.ireturn, 1) := by decide +kernel
theorem dJ0_charAt_5068e_0 : decode cJ0_charAt_5068e 0 = .ok (.aload_n 0, 1) := by decide +kernel
theorem dJ0_charAt_5068e_1 : decode cJ0_charAt_5068e 1 = .ok (.invokevirtual 492, 3) := by decide +kernel
theorem dJ0_charAt_5068e_4 : decode cJ0_charAt_5068e 4 = .ok (.ifCond .eq 12, 3) := by decide +kernel
theorem dJ0_charAt_5068e_7 : decode cJ0_charAt_5068e 7 = .ok (.aload_n 0, 1) := by decide +kernel
theorem dJ0_charAt_5068e_8 : decode cJ0_charAt_5068e 8 = .ok (.getfield 9, 3) := by decide +kernel
theorem dJ0_charAt_5068e_11 : decode cJ0_charAt_5068e 11 = .ok (.iload_n 1, 1) := by decide +kernel
theorem dJ0_charAt_5068e_12 : decode cJ0_charAt_5068e 12 = .ok (.invokestatic 495, 3) := by decide +kernel
theorem dJ0_charAt_5068e_15 : decode cJ0_charAt_5068e 15 = .ok (.ireturn, 1) := by decide +kernel
theorem dJ0_charAt_5068e_16 : decode cJ0_charAt_5068e 16 = .ok (.aload_n 0, 1) := by decide +kernel
theorem dJ0_charAt_5068e_17 : decode cJ0_charAt_5068e 17 = .ok (.getfield 9, 3) := by decide +kernel
theorem dJ0_charAt_5068e_20 : decode cJ0_charAt_5068e 20 = .ok (.iload_n 1, 1) := by decide +kernel
theorem dJ0_charAt_5068e_21 : decode cJ0_charAt_5068e 21 = .ok (.invokestatic 498, 3) := by decide +kernel
theorem dJ0_charAt_5068e_24 : decode cJ0_charAt_5068e 24 = .ok (.ireturn, 1) := by decide +kernel
theorem dJ0_indexOf_0f7a4_0 : decode cJ0_indexOf_0f7a4 0 = .ok (.aload_n 0, 1) := by decide +kernel
theorem dJ0_indexOf_0f7a4_1 : decode cJ0_indexOf_0f7a4 1 = .ok (.iload_n 1, 1) := by decide +kernel
theorem dJ0_indexOf_0f7a4_2 : decode cJ0_indexOf_0f7a4 2 = .ok (.iconst 0, 1) := by decide +kernel
theorem dJ0_indexOf_0f7a4_3 : decode cJ0_indexOf_0f7a4 3 = .ok (.invokevirtual 633, 3) := by decide +kernel
theorem dJ0_indexOf_0f7a4_6 : decode cJ0_indexOf_0f7a4 6 = .ok (.ireturn, 1) := by decide +kernel
theorem dJ0_indexOf_7cf53_0 : decode cJ0_indexOf_7cf53 0 = .ok (.aload_n 0, 1) := by decide +kernel
theorem dJ0_indexOf_7cf53_1 : decode cJ0_indexOf_7cf53 1 = .ok (.invokevirtual 492, 3) := by decide +kernel
theorem dJ0_indexOf_7cf53_4 : decode cJ0_indexOf_7cf53 4 = .ok (.ifCond .eq 19, 3) := by decide +kernel
theorem dJ0_indexOf_7cf53_7 : decode cJ0_indexOf_7cf53 7 = .ok (.aload_n 0, 1) := by decide +kernel
theorem dJ0_indexOf_7cf53_8 : decode cJ0_indexOf_7cf53 8 = .ok (.getfield 9, 3) := by decide +kernel
theorem dJ0_indexOf_7cf53_11 : decode cJ0_indexOf_7cf53 11 = .ok (.iload_n 1, 1) := by decide +kernel
theorem dJ0_indexOf_7cf53_12 : decode cJ0_indexOf_7cf53 12 = .ok (.iload_n 2, 1) := by decide +kernel
theorem dJ0_indexOf_7cf53_13 : decode cJ0_indexOf_7cf53 13 = .ok (.aload_n 0, 1) := by decide +kernel
theorem dJ0_indexOf_7cf53_14 : decode cJ0_indexOf_7cf53 14 = .ok (.invokevirtual 505, 3) := by decide +kernel
theorem dJ0_indexOf_7cf53_17 : decode cJ0_indexOf_7cf53 17 = .ok (.invokestatic 637, 3) := by decide +kernel
theorem dJ0_indexOf_7cf53_20 : decode cJ0_indexOf_7cf53 20 = .ok (.goto 16, 3) := by decide +kernel
theorem dJ0_indexOf_7cf53_23 : decode cJ0_indexOf_7cf53 23 = .ok (.aload_n 0, 1) := by decide +kernel
theorem dJ0_indexOf_7cf53_24 : decode cJ0_indexOf_7cf53 24 = .ok (.getfield 9, 3) := by decide +kernel
theorem dJ0_indexOf_7cf53_27 : decode cJ0_indexOf_7cf53 27 = .ok (.iload_n 1, 1) := by decide +kernel
theorem dJ0_indexOf_7cf53_28 : decode cJ0_indexOf_7cf53 28 = .ok (.iload_n 2, 1) := by decide +kernel
theorem dJ0_indexOf_7cf53_29 : decode cJ0_indexOf_7cf53 29 = .ok (.aload_n 0, 1) := by decide +kernel
theorem dJ0_indexOf_7cf53_30 : decode cJ0_indexOf_7cf53 30 = .ok (.invokevirtual 505, 3) := by decide +kernel
theorem dJ0_indexOf_7cf53_33 : decode cJ0_indexOf_7cf53 33 = .ok (.invokestatic 640, 3) := by decide +kernel
theorem dJ0_indexOf_7cf53_36 : decode cJ0_indexOf_7cf53 36 = .ok (.ireturn, 1) := by decide +kernel
theorem dJ0_coder_7d493_0 : decode cJ0_coder_7d493 0 = .ok (.getstatic 38, 3) := by decide +kernel
theorem dJ0_coder_7d493_3 : decode cJ0_coder_7d493 3 = .ok (.ifCond .eq 10, 3) := by decide +kernel
theorem dJ0_coder_7d493_6 : decode cJ0_coder_7d493 6 = .ok (.aload_n 0, 1) := by decide +kernel
theorem dJ0_coder_7d493_7 : decode cJ0_coder_7d493 7 = .ok (.getfield 15, 3) := by decide +kernel
theorem dJ0_coder_7d493_10 : decode cJ0_coder_7d493 10 = .ok (.goto 4, 3) := by decide +kernel
theorem dJ0_coder_7d493_13 : decode cJ0_coder_7d493 13 = .ok (.iconst 1, 1) := by decide +kernel
theorem dJ0_coder_7d493_14 : decode cJ0_coder_7d493 14 = .ok (.ireturn, 1) := by decide +kernel
theorem dJ0_isLatin1_aae02_0 : decode cJ0_isLatin1_aae02 0 = .ok (.getstatic 38, 3) := by decide +kernel
theorem dJ0_isLatin1_aae02_3 : decode cJ0_isLatin1_aae02 3 = .ok (.ifCond .eq 14, 3) := by decide +kernel
theorem dJ0_isLatin1_aae02_6 : decode cJ0_isLatin1_aae02 6 = .ok (.aload_n 0, 1) := by decide +kernel
theorem dJ0_isLatin1_aae02_7 : decode cJ0_isLatin1_aae02 7 = .ok (.getfield 15, 3) := by decide +kernel
theorem dJ0_isLatin1_aae02_10 : decode cJ0_isLatin1_aae02 10 = .ok (.ifCond .ne 7, 3) := by decide +kernel
theorem dJ0_isLatin1_aae02_13 : decode cJ0_isLatin1_aae02 13 = .ok (.iconst 1, 1) := by decide +kernel
theorem dJ0_isLatin1_aae02_14 : decode cJ0_isLatin1_aae02 14 = .ok (.goto 4, 3) := by decide +kernel
theorem dJ0_isLatin1_aae02_17 : decode cJ0_isLatin1_aae02 17 = .ok (.iconst 0, 1) := by decide +kernel
theorem dJ0_isLatin1_aae02_18 : decode cJ0_isLatin1_aae02 18 = .ok (.ireturn, 1) := by decide +kernel
theorem dJ0_checkIndex_df160_0 : decode cJ0_checkIndex_df160 0 = .ok (.iload_n 0, 1) := by decide +kernel
theorem dJ0_checkIndex_df160_1 : decode cJ0_checkIndex_df160 1 = .ok (.iload_n 1, 1) := by decide +kernel
theorem dJ0_checkIndex_df160_2 : decode cJ0_checkIndex_df160 2 = .ok (.getstatic 1053, 3) := by decide +kernel
theorem dJ0_checkIndex_df160_5 : decode cJ0_checkIndex_df160 5 = .ok (.invokestatic 1059, 3) := by decide +kernel
theorem dJ0_checkIndex_df160_8 : decode cJ0_checkIndex_df160 8 = .ok (.pop, 1) := by decide +kernel
theorem dJ0_checkIndex_df160_9 : decode cJ0_checkIndex_df160 9 = .ok (.return_, 1) := by decide +kernel
theorem dJ0_checkBoundsBeginEnd_23922_0 : decode cJ0_checkBoundsBeginEnd_23922 0 = .ok (.iload_n 0, 1) := by decide +kernel
theorem dJ0_checkBoundsBeginEnd_23922_1 : decode cJ0_checkBoundsBeginEnd_23922 1 = .ok (.iload_n 1, 1) := by decide +kernel
theorem dJ0_checkBoundsBeginEnd_23922_2 : decode cJ0_checkBoundsBeginEnd_23922 2 = .ok (.iload_n 2, 1) := by decide +kernel
theorem dJ0_checkBoundsBeginEnd_23922_3 : decode cJ0_checkBoundsBeginEnd_23922 3 = .ok (.getstatic 1053, 3) := by decide +kernel
theorem dJ0_checkBoundsBeginEnd_23922_6 : decode cJ0_checkBoundsBeginEnd_23922 6 = .ok (.invokestatic 1062, 3) := by decide +kernel
theorem dJ0_checkBoundsBeginEnd_23922_9 : decode cJ0_checkBoundsBeginEnd_23922 9 = .ok (.pop, 1) := by decide +kernel
theorem dJ0_checkBoundsBeginEnd_23922_10 : decode cJ0_checkBoundsBeginEnd_23922 10 = .ok (.return_, 1) := by decide +kernel
theorem dJ1_charAt_3b067_0 : decode cJ1_charAt_3b067 0 = .ok (.iload_n 1, 1) := by decide +kernel
theorem dJ1_charAt_3b067_1 : decode cJ1_charAt_3b067 1 = .ok (.aload_n 0, 1) := by decide +kernel
theorem dJ1_charAt_3b067_2 : decode cJ1_charAt_3b067 2 = .ok (.arraylength, 1) := by decide +kernel
theorem dJ1_charAt_3b067_3 : decode cJ1_charAt_3b067 3 = .ok (.invokestatic 9, 3) := by decide +kernel
theorem dJ1_charAt_3b067_6 : decode cJ1_charAt_3b067 6 = .ok (.aload_n 0, 1) := by decide +kernel
theorem dJ1_charAt_3b067_7 : decode cJ1_charAt_3b067 7 = .ok (.iload_n 1, 1) := by decide +kernel
theorem dJ1_charAt_3b067_8 : decode cJ1_charAt_3b067 8 = .ok (.baload, 1) := by decide +kernel
theorem dJ1_charAt_3b067_9 : decode cJ1_charAt_3b067 9 = .ok (.sipush 255, 3) := by decide +kernel
theorem dJ1_charAt_3b067_12 : decode cJ1_charAt_3b067 12 = .ok (.iand, 1) := by decide +kernel
theorem dJ1_charAt_3b067_13 : decode cJ1_charAt_3b067 13 = .ok (.i2c, 1) := by decide +kernel
theorem dJ1_charAt_3b067_14 : decode cJ1_charAt_3b067 14 = .ok (.ireturn, 1) := by decide +kernel
theorem dJ1_canEncode_9a6ad_0 : decode cJ1_canEncode_9a6ad 0 = .ok (.iload_n 0, 1) := by decide +kernel
theorem dJ1_canEncode_9a6ad_1 : decode cJ1_canEncode_9a6ad 1 = .ok (.ifCond .lt 14, 3) := by decide +kernel
theorem dJ1_canEncode_9a6ad_4 : decode cJ1_canEncode_9a6ad 4 = .ok (.iload_n 0, 1) := by decide +kernel
theorem dJ1_canEncode_9a6ad_5 : decode cJ1_canEncode_9a6ad 5 = .ok (.sipush 255, 3) := by decide +kernel
theorem dJ1_canEncode_9a6ad_8 : decode cJ1_canEncode_9a6ad 8 = .ok (.if_icmp .gt 7, 3) := by decide +kernel
theorem dJ1_canEncode_9a6ad_11 : decode cJ1_canEncode_9a6ad 11 = .ok (.iconst 1, 1) := by decide +kernel
theorem dJ1_canEncode_9a6ad_12 : decode cJ1_canEncode_9a6ad 12 = .ok (.goto 4, 3) := by decide +kernel
theorem dJ1_canEncode_9a6ad_15 : decode cJ1_canEncode_9a6ad 15 = .ok (.iconst 0, 1) := by decide +kernel
theorem dJ1_canEncode_9a6ad_16 : decode cJ1_canEncode_9a6ad 16 = .ok (.ireturn, 1) := by decide +kernel
theorem dJ1_indexOf_4cfef_0 : decode cJ1_indexOf_4cfef 0 = .ok (.iload_n 1, 1) := by decide +kernel
theorem dJ1_indexOf_4cfef_1 : decode cJ1_indexOf_4cfef 1 = .ok (.invokestatic 88, 3) := by decide +kernel
theorem dJ1_indexOf_4cfef_4 : decode cJ1_indexOf_4cfef 4 = .ok (.ifCond .ne 5, 3) := by decide +kernel
theorem dJ1_indexOf_4cfef_7 : decode cJ1_indexOf_4cfef 7 = .ok (.iconst (-1), 1) := by decide +kernel
theorem dJ1_indexOf_4cfef_8 : decode cJ1_indexOf_4cfef 8 = .ok (.ireturn, 1) := by decide +kernel
theorem dJ1_indexOf_4cfef_9 : decode cJ1_indexOf_4cfef 9 = .ok (.iload_n 2, 1) := by decide +kernel
theorem dJ1_indexOf_4cfef_10 : decode cJ1_indexOf_4cfef 10 = .ok (.iconst 0, 1) := by decide +kernel
theorem dJ1_indexOf_4cfef_11 : decode cJ1_indexOf_4cfef 11 = .ok (.invokestatic 92, 3) := by decide +kernel
theorem dJ1_indexOf_4cfef_14 : decode cJ1_indexOf_4cfef 14 = .ok (.istore_n 2, 1) := by decide +kernel
theorem dJ1_indexOf_4cfef_15 : decode cJ1_indexOf_4cfef 15 = .ok (.iload_n 3, 1) := by decide +kernel
theorem dJ1_indexOf_4cfef_16 : decode cJ1_indexOf_4cfef 16 = .ok (.aload_n 0, 1) := by decide +kernel
theorem dJ1_indexOf_4cfef_17 : decode cJ1_indexOf_4cfef 17 = .ok (.arraylength, 1) := by decide +kernel
theorem dJ1_indexOf_4cfef_18 : decode cJ1_indexOf_4cfef 18 = .ok (.invokestatic 38, 3) := by decide +kernel
theorem dJ1_indexOf_4cfef_21 : decode cJ1_indexOf_4cfef 21 = .ok (.istore_n 3, 1) := by decide +kernel
theorem dJ1_indexOf_4cfef_22 : decode cJ1_indexOf_4cfef 22 = .ok (.iload_n 2, 1) := by decide +kernel
theorem dJ1_indexOf_4cfef_23 : decode cJ1_indexOf_4cfef 23 = .ok (.iload_n 3, 1) := by decide +kernel
theorem dJ1_indexOf_4cfef_24 : decode cJ1_indexOf_4cfef 24 = .ok (.if_icmp .lt 5, 3) := by decide +kernel
theorem dJ1_indexOf_4cfef_27 : decode cJ1_indexOf_4cfef 27 = .ok (.iconst (-1), 1) := by decide +kernel
theorem dJ1_indexOf_4cfef_28 : decode cJ1_indexOf_4cfef 28 = .ok (.ireturn, 1) := by decide +kernel
theorem dJ1_indexOf_4cfef_29 : decode cJ1_indexOf_4cfef 29 = .ok (.aload_n 0, 1) := by decide +kernel
theorem dJ1_indexOf_4cfef_30 : decode cJ1_indexOf_4cfef 30 = .ok (.iload_n 1, 1) := by decide +kernel
theorem dJ1_indexOf_4cfef_31 : decode cJ1_indexOf_4cfef 31 = .ok (.iload_n 2, 1) := by decide +kernel
theorem dJ1_indexOf_4cfef_32 : decode cJ1_indexOf_4cfef 32 = .ok (.iload_n 3, 1) := by decide +kernel
theorem dJ1_indexOf_4cfef_33 : decode cJ1_indexOf_4cfef 33 = .ok (.invokestatic 95, 3) := by decide +kernel
theorem dJ1_indexOf_4cfef_36 : decode cJ1_indexOf_4cfef 36 = .ok (.ireturn, 1) := by decide +kernel
theorem dJ1_indexOfChar_4cfef_0 : decode cJ1_indexOfChar_4cfef 0 = .ok (.iload_n 1, 1) := by decide +kernel
theorem dJ1_indexOfChar_4cfef_1 : decode cJ1_indexOfChar_4cfef 1 = .ok (.i2b, 1) := by decide +kernel
theorem dJ1_indexOfChar_4cfef_2 : decode cJ1_indexOfChar_4cfef 2 = .ok (.istore 4, 2) := by decide +kernel
theorem dJ1_indexOfChar_4cfef_4 : decode cJ1_indexOfChar_4cfef 4 = .ok (.iload_n 2, 1) := by decide +kernel
theorem dJ1_indexOfChar_4cfef_5 : decode cJ1_indexOfChar_4cfef 5 = .ok (.istore 5, 2) := by decide +kernel
theorem dJ1_indexOfChar_4cfef_7 : decode cJ1_indexOfChar_4cfef 7 = .ok (.iload 5, 2) := by decide +kernel
theorem dJ1_indexOfChar_4cfef_9 : decode cJ1_indexOfChar_4cfef 9 = .ok (.iload_n 3, 1) := by decide +kernel
theorem dJ1_indexOfChar_4cfef_10 : decode cJ1_indexOfChar_4cfef 10 = .ok (.if_icmp .ge 21, 3) := by decide +kernel
theorem dJ1_indexOfChar_4cfef_13 : decode cJ1_indexOfChar_4cfef 13 = .ok (.aload_n 0, 1) := by decide +kernel
theorem dJ1_indexOfChar_4cfef_14 : decode cJ1_indexOfChar_4cfef 14 = .ok (.iload 5, 2) := by decide +kernel
theorem dJ1_indexOfChar_4cfef_16 : decode cJ1_indexOfChar_4cfef 16 = .ok (.baload, 1) := by decide +kernel
theorem dJ1_indexOfChar_4cfef_17 : decode cJ1_indexOfChar_4cfef 17 = .ok (.iload 4, 2) := by decide +kernel
theorem dJ1_indexOfChar_4cfef_19 : decode cJ1_indexOfChar_4cfef 19 = .ok (.if_icmp .ne 6, 3) := by decide +kernel
theorem dJ1_indexOfChar_4cfef_22 : decode cJ1_indexOfChar_4cfef 22 = .ok (.iload 5, 2) := by decide +kernel
theorem dJ1_indexOfChar_4cfef_24 : decode cJ1_indexOfChar_4cfef 24 = .ok (.ireturn, 1) := by decide +kernel
theorem dJ1_indexOfChar_4cfef_25 : decode cJ1_indexOfChar_4cfef 25 = .ok (.iinc 5 1, 3) := by decide +kernel
theorem dJ1_indexOfChar_4cfef_28 : decode cJ1_indexOfChar_4cfef 28 = .ok (.goto (-21), 3) := by decide +kernel
theorem dJ1_indexOfChar_4cfef_31 : decode cJ1_indexOfChar_4cfef 31 = .ok (.iconst (-1), 1) := by decide +kernel
theorem dJ1_indexOfChar_4cfef_32 : decode cJ1_indexOfChar_4cfef 32 = .ok (.ireturn, 1) := by decide +kernel
theorem dJ3_checkIndex_8e157_0 : decode cJ3_checkIndex_8e157 0 = .ok (.iload_n 0, 1) := by decide +kernel
theorem dJ3_checkIndex_8e157_1 : decode cJ3_checkIndex_8e157 1 = .ok (.ifCond .lt 8, 3) := by decide +kernel
theorem dJ3_checkIndex_8e157_4 : decode cJ3_checkIndex_8e157 4 = .ok (.iload_n 0, 1) := by decide +kernel
theorem dJ3_checkIndex_8e157_5 : decode cJ3_checkIndex_8e157 5 = .ok (.iload_n 1, 1) := by decide +kernel
theorem dJ3_checkIndex_8e157_6 : decode cJ3_checkIndex_8e157 6 = .ok (.if_icmp .lt 10, 3) := by decide +kernel
theorem dJ3_checkIndex_8e157_9 : decode cJ3_checkIndex_8e157 9 = .ok (.aload_n 2, 1) := by decide +kernel
theorem dJ3_checkIndex_8e157_10 : decode cJ3_checkIndex_8e157 10 = .ok (.iload_n 0, 1) := by decide +kernel
theorem dJ3_checkIndex_8e157_11 : decode cJ3_checkIndex_8e157 11 = .ok (.iload_n 1, 1) := by decide +kernel
theorem dJ3_checkIndex_8e157_12 : decode cJ3_checkIndex_8e157 12 = .ok (.invokestatic 95, 3) := by decide +kernel
theorem dJ3_checkIndex_8e157_15 : decode cJ3_checkIndex_8e157 15 = .ok (.athrow, 1) := by decide +kernel
theorem dJ3_checkIndex_8e157_16 : decode cJ3_checkIndex_8e157 16 = .ok (.iload_n 0, 1) := by decide +kernel
theorem dJ3_checkIndex_8e157_17 : decode cJ3_checkIndex_8e157 17 = .ok (.ireturn, 1) := by decide +kernel
theorem dJ3_checkFromToIndex_8c36e_0 : decode cJ3_checkFromToIndex_8c36e 0 = .ok (.iload_n 0, 1) := by decide +kernel
theorem dJ3_checkFromToIndex_8c36e_1 : decode cJ3_checkFromToIndex_8c36e 1 = .ok (.ifCond .lt 13, 3) := by decide +kernel
theorem dJ3_checkFromToIndex_8c36e_4 : decode cJ3_checkFromToIndex_8c36e 4 = .ok (.iload_n 0, 1) := by decide +kernel
theorem dJ3_checkFromToIndex_8c36e_5 : decode cJ3_checkFromToIndex_8c36e 5 = .ok (.iload_n 1, 1) := by decide +kernel
theorem dJ3_checkFromToIndex_8c36e_6 : decode cJ3_checkFromToIndex_8c36e 6 = .ok (.if_icmp .gt 8, 3) := by decide +kernel
theorem dJ3_checkFromToIndex_8c36e_9 : decode cJ3_checkFromToIndex_8c36e 9 = .ok (.iload_n 1, 1) := by decide +kernel
theorem dJ3_checkFromToIndex_8c36e_10 : decode cJ3_checkFromToIndex_8c36e 10 = .ok (.iload_n 2, 1) := by decide +kernel
theorem dJ3_checkFromToIndex_8c36e_11 : decode cJ3_checkFromToIndex_8c36e 11 = .ok (.if_icmp .le 11, 3) := by decide +kernel
theorem dJ3_checkFromToIndex_8c36e_14 : decode cJ3_checkFromToIndex_8c36e 14 = .ok (.aload_n 3, 1) := by decide +kernel
theorem dJ3_checkFromToIndex_8c36e_15 : decode cJ3_checkFromToIndex_8c36e 15 = .ok (.iload_n 0, 1) := by decide +kernel
theorem dJ3_checkFromToIndex_8c36e_16 : decode cJ3_checkFromToIndex_8c36e 16 = .ok (.iload_n 1, 1) := by decide +kernel
theorem dJ3_checkFromToIndex_8c36e_17 : decode cJ3_checkFromToIndex_8c36e 17 = .ok (.iload_n 2, 1) := by decide +kernel
theorem dJ3_checkFromToIndex_8c36e_18 : decode cJ3_checkFromToIndex_8c36e 18 = .ok (.invokestatic 99, 3) := by decide +kernel
theorem dJ3_checkFromToIndex_8c36e_21 : decode cJ3_checkFromToIndex_8c36e 21 = .ok (.athrow, 1) := by decide +kernel
theorem dJ3_checkFromToIndex_8c36e_22 : decode cJ3_checkFromToIndex_8c36e 22 = .ok (.iload_n 0, 1) := by decide +kernel
theorem dJ3_checkFromToIndex_8c36e_23 : decode cJ3_checkFromToIndex_8c36e 23 = .ok (.ireturn, 1) := by decide +kernel
theorem dJ6_numberOfLeadingZeros_0f7a4_0 : decode cJ6_numberOfLeadingZeros_0f7a4 0 = .ok (.iload_n 0, 1) := by decide +kernel
theorem dJ6_numberOfLeadingZeros_0f7a4_1 : decode cJ6_numberOfLeadingZeros_0f7a4 1 = .ok (.ifCond .gt 14, 3) := by decide +kernel
theorem dJ6_numberOfLeadingZeros_0f7a4_4 : decode cJ6_numberOfLeadingZeros_0f7a4 4 = .ok (.iload_n 0, 1) := by decide +kernel
theorem dJ6_numberOfLeadingZeros_0f7a4_5 : decode cJ6_numberOfLeadingZeros_0f7a4 5 = .ok (.ifCond .ne 8, 3) := by decide +kernel
theorem dJ6_numberOfLeadingZeros_0f7a4_8 : decode cJ6_numberOfLeadingZeros_0f7a4 8 = .ok (.bipush 32, 2) := by decide +kernel
theorem dJ6_numberOfLeadingZeros_0f7a4_10 : decode cJ6_numberOfLeadingZeros_0f7a4 10 = .ok (.goto 4, 3) := by decide +kernel
theorem dJ6_numberOfLeadingZeros_0f7a4_13 : decode cJ6_numberOfLeadingZeros_0f7a4 13 = .ok (.iconst 0, 1) := by decide +kernel
theorem dJ6_numberOfLeadingZeros_0f7a4_14 : decode cJ6_numberOfLeadingZeros_0f7a4 14 = .ok (.ireturn, 1) := by decide +kernel
theorem dJ6_numberOfLeadingZeros_0f7a4_15 : decode cJ6_numberOfLeadingZeros_0f7a4 15 = .ok (.bipush 31, 2) := by decide +kernel
theorem dJ6_numberOfLeadingZeros_0f7a4_17 : decode cJ6_numberOfLeadingZeros_0f7a4 17 = .ok (.istore_n 1, 1) := by decide +kernel
theorem dJ6_numberOfLeadingZeros_0f7a4_18 : decode cJ6_numberOfLeadingZeros_0f7a4 18 = .ok (.iload_n 0, 1) := by decide +kernel
theorem dJ6_numberOfLeadingZeros_0f7a4_19 : decode cJ6_numberOfLeadingZeros_0f7a4 19 = .ok (.ldc_w 264, 3) := by decide +kernel
theorem dJ6_numberOfLeadingZeros_0f7a4_22 : decode cJ6_numberOfLeadingZeros_0f7a4 22 = .ok (.if_icmp .lt 11, 3) := by decide +kernel
theorem dJ6_numberOfLeadingZeros_0f7a4_25 : decode cJ6_numberOfLeadingZeros_0f7a4 25 = .ok (.iinc 1 (-16), 3) := by decide +kernel
theorem dJ6_numberOfLeadingZeros_0f7a4_28 : decode cJ6_numberOfLeadingZeros_0f7a4 28 = .ok (.iload_n 0, 1) := by decide +kernel
theorem dJ6_numberOfLeadingZeros_0f7a4_29 : decode cJ6_numberOfLeadingZeros_0f7a4 29 = .ok (.bipush 16, 2) := by decide +kernel
theorem dJ6_numberOfLeadingZeros_0f7a4_31 : decode cJ6_numberOfLeadingZeros_0f7a4 31 = .ok (.iushr, 1) := by decide +kernel
theorem dJ6_numberOfLeadingZeros_0f7a4_32 : decode cJ6_numberOfLeadingZeros_0f7a4 32 = .ok (.istore_n 0, 1) := by decide +kernel
theorem dJ6_numberOfLeadingZeros_0f7a4_33 : decode cJ6_numberOfLeadingZeros_0f7a4 33 = .ok (.iload_n 0, 1) := by decide +kernel
theorem dJ6_numberOfLeadingZeros_0f7a4_34 : decode cJ6_numberOfLeadingZeros_0f7a4 34 = .ok (.sipush 256, 3) := by decide +kernel
theorem dJ6_numberOfLeadingZeros_0f7a4_37 : decode cJ6_numberOfLeadingZeros_0f7a4 37 = .ok (.if_icmp .lt 11, 3) := by decide +kernel
theorem dJ6_numberOfLeadingZeros_0f7a4_40 : decode cJ6_numberOfLeadingZeros_0f7a4 40 = .ok (.iinc 1 (-8), 3) := by decide +kernel
theorem dJ6_numberOfLeadingZeros_0f7a4_43 : decode cJ6_numberOfLeadingZeros_0f7a4 43 = .ok (.iload_n 0, 1) := by decide +kernel
theorem dJ6_numberOfLeadingZeros_0f7a4_44 : decode cJ6_numberOfLeadingZeros_0f7a4 44 = .ok (.bipush 8, 2) := by decide +kernel
theorem dJ6_numberOfLeadingZeros_0f7a4_46 : decode cJ6_numberOfLeadingZeros_0f7a4 46 = .ok (.iushr, 1) := by decide +kernel
theorem dJ6_numberOfLeadingZeros_0f7a4_47 : decode cJ6_numberOfLeadingZeros_0f7a4 47 = .ok (.istore_n 0, 1) := by decide +kernel
theorem dJ6_numberOfLeadingZeros_0f7a4_48 : decode cJ6_numberOfLeadingZeros_0f7a4 48 = .ok (.iload_n 0, 1) := by decide +kernel
theorem dJ6_numberOfLeadingZeros_0f7a4_49 : decode cJ6_numberOfLeadingZeros_0f7a4 49 = .ok (.bipush 16, 2) := by decide +kernel
theorem dJ6_numberOfLeadingZeros_0f7a4_51 : decode cJ6_numberOfLeadingZeros_0f7a4 51 = .ok (.if_icmp .lt 10, 3) := by decide +kernel
theorem dJ6_numberOfLeadingZeros_0f7a4_54 : decode cJ6_numberOfLeadingZeros_0f7a4 54 = .ok (.iinc 1 (-4), 3) := by decide +kernel
theorem dJ6_numberOfLeadingZeros_0f7a4_57 : decode cJ6_numberOfLeadingZeros_0f7a4 57 = .ok (.iload_n 0, 1) := by decide +kernel
theorem dJ6_numberOfLeadingZeros_0f7a4_58 : decode cJ6_numberOfLeadingZeros_0f7a4 58 = .ok (.iconst 4, 1) := by decide +kernel
theorem dJ6_numberOfLeadingZeros_0f7a4_59 : decode cJ6_numberOfLeadingZeros_0f7a4 59 = .ok (.iushr, 1) := by decide +kernel
theorem dJ6_numberOfLeadingZeros_0f7a4_60 : decode cJ6_numberOfLeadingZeros_0f7a4 60 = .ok (.istore_n 0, 1) := by decide +kernel
theorem dJ6_numberOfLeadingZeros_0f7a4_61 : decode cJ6_numberOfLeadingZeros_0f7a4 61 = .ok (.iload_n 0, 1) := by decide +kernel
theorem dJ6_numberOfLeadingZeros_0f7a4_62 : decode cJ6_numberOfLeadingZeros_0f7a4 62 = .ok (.iconst 4, 1) := by decide +kernel
theorem dJ6_numberOfLeadingZeros_0f7a4_63 : decode cJ6_numberOfLeadingZeros_0f7a4 63 = .ok (.if_icmp .lt 10, 3) := by decide +kernel
theorem dJ6_numberOfLeadingZeros_0f7a4_66 : decode cJ6_numberOfLeadingZeros_0f7a4 66 = .ok (.iinc 1 (-2), 3) := by decide +kernel
theorem dJ6_numberOfLeadingZeros_0f7a4_69 : decode cJ6_numberOfLeadingZeros_0f7a4 69 = .ok (.iload_n 0, 1) := by decide +kernel
theorem dJ6_numberOfLeadingZeros_0f7a4_70 : decode cJ6_numberOfLeadingZeros_0f7a4 70 = .ok (.iconst 2, 1) := by decide +kernel
theorem dJ6_numberOfLeadingZeros_0f7a4_71 : decode cJ6_numberOfLeadingZeros_0f7a4 71 = .ok (.iushr, 1) := by decide +kernel
theorem dJ6_numberOfLeadingZeros_0f7a4_72 : decode cJ6_numberOfLeadingZeros_0f7a4 72 = .ok (.istore_n 0, 1) := by decide +kernel
theorem dJ6_numberOfLeadingZeros_0f7a4_73 : decode cJ6_numberOfLeadingZeros_0f7a4 73 = .ok (.iload_n 1, 1) := by decide +kernel
theorem dJ6_numberOfLeadingZeros_0f7a4_74 : decode cJ6_numberOfLeadingZeros_0f7a4 74 = .ok (.iload_n 0, 1) := by decide +kernel
theorem dJ6_numberOfLeadingZeros_0f7a4_75 : decode cJ6_numberOfLeadingZeros_0f7a4 75 = .ok (.iconst 1, 1) := by decide +kernel
theorem dJ6_numberOfLeadingZeros_0f7a4_76 : decode cJ6_numberOfLeadingZeros_0f7a4 76 = .ok (.iushr, 1) := by decide +kernel
theorem dJ6_numberOfLeadingZeros_0f7a4_77 : decode cJ6_numberOfLeadingZeros_0f7a4 77 = .ok (.isub, 1) := by decide +kernel
theorem dJ6_numberOfLeadingZeros_0f7a4_78 : decode cJ6_numberOfLeadingZeros_0f7a4 78 = .ok (.ireturn, 1) := by decide +kernel
theorem dJ6_numberOfTrailingZeros_0f7a4_0 : decode cJ6_numberOfTrailingZeros_0f7a4 0 = .ok (.iload_n 0, 1) := by decide +kernel
theorem dJ6_numberOfTrailingZeros_0f7a4_1 : decode cJ6_numberOfTrailingZeros_0f7a4 1 = .ok (.iconst (-1), 1) := by decide +kernel
theorem dJ6_numberOfTrailingZeros_0f7a4_2 : decode cJ6_numberOfTrailingZeros_0f7a4 2 = .ok (.ixor, 1) := by decide +kernel
theorem dJ6_numberOfTrailingZeros_0f7a4_3 : decode cJ6_numberOfTrailingZeros_0f7a4 3 = .ok (.iload_n 0, 1) := by decide +kernel
theorem dJ6_numberOfTrailingZeros_0f7a4_4 : decode cJ6_numberOfTrailingZeros_0f7a4 4 = .ok (.iconst 1, 1) := by decide +kernel
theorem dJ6_numberOfTrailingZeros_0f7a4_5 : decode cJ6_numberOfTrailingZeros_0f7a4 5 = .ok (.isub, 1) := by decide +kernel
theorem dJ6_numberOfTrailingZeros_0f7a4_6 : decode cJ6_numberOfTrailingZeros_0f7a4 6 = .ok (.iand, 1) := by decide +kernel
theorem dJ6_numberOfTrailingZeros_0f7a4_7 : decode cJ6_numberOfTrailingZeros_0f7a4 7 = .ok (.istore_n 0, 1) := by decide +kernel
theorem dJ6_numberOfTrailingZeros_0f7a4_8 : decode cJ6_numberOfTrailingZeros_0f7a4 8 = .ok (.iload_n 0, 1) := by decide +kernel
theorem dJ6_numberOfTrailingZeros_0f7a4_9 : decode cJ6_numberOfTrailingZeros_0f7a4 9 = .ok (.ifCond .gt 8, 3) := by decide +kernel
theorem dJ6_numberOfTrailingZeros_0f7a4_12 : decode cJ6_numberOfTrailingZeros_0f7a4 12 = .ok (.iload_n 0, 1) := by decide +kernel
theorem dJ6_numberOfTrailingZeros_0f7a4_13 : decode cJ6_numberOfTrailingZeros_0f7a4 13 = .ok (.bipush 32, 2) := by decide +kernel
theorem dJ6_numberOfTrailingZeros_0f7a4_15 : decode cJ6_numberOfTrailingZeros_0f7a4 15 = .ok (.iand, 1) := by decide +kernel
theorem dJ6_numberOfTrailingZeros_0f7a4_16 : decode cJ6_numberOfTrailingZeros_0f7a4 16 = .ok (.ireturn, 1) := by decide +kernel
theorem dJ6_numberOfTrailingZeros_0f7a4_17 : decode cJ6_numberOfTrailingZeros_0f7a4 17 = .ok (.iconst 1, 1) := by decide +kernel
theorem dJ6_numberOfTrailingZeros_0f7a4_18 : decode cJ6_numberOfTrailingZeros_0f7a4 18 = .ok (.istore_n 1, 1) := by decide +kernel
theorem dJ6_numberOfTrailingZeros_0f7a4_19 : decode cJ6_numberOfTrailingZeros_0f7a4 19 = .ok (.iload_n 0, 1) := by decide +kernel
theorem dJ6_numberOfTrailingZeros_0f7a4_20 : decode cJ6_numberOfTrailingZeros_0f7a4 20 = .ok (.ldc_w 264, 3) := by decide +kernel
theorem dJ6_numberOfTrailingZeros_0f7a4_23 : decode cJ6_numberOfTrailingZeros_0f7a4 23 = .ok (.if_icmp .le 11, 3) := by decide +kernel
theorem dJ6_numberOfTrailingZeros_0f7a4_26 : decode cJ6_numberOfTrailingZeros_0f7a4 26 = .ok (.iinc 1 16, 3) := by decide +kernel
theorem dJ6_numberOfTrailingZeros_0f7a4_29 : decode cJ6_numberOfTrailingZeros_0f7a4 29 = .ok (.iload_n 0, 1) := by decide +kernel
theorem dJ6_numberOfTrailingZeros_0f7a4_30 : decode cJ6_numberOfTrailingZeros_0f7a4 30 = .ok (.bipush 16, 2) := by decide +kernel
theorem dJ6_numberOfTrailingZeros_0f7a4_32 : decode cJ6_numberOfTrailingZeros_0f7a4 32 = .ok (.iushr, 1) := by decide +kernel
theorem dJ6_numberOfTrailingZeros_0f7a4_33 : decode cJ6_numberOfTrailingZeros_0f7a4 33 = .ok (.istore_n 0, 1) := by decide +kernel
theorem dJ6_numberOfTrailingZeros_0f7a4_34 : decode cJ6_numberOfTrailingZeros_0f7a4 34 = .ok (.iload_n 0, 1) := by decide +kernel
theorem dJ6_numberOfTrailingZeros_0f7a4_35 : decode cJ6_numberOfTrailingZeros_0f7a4 35 = .ok (.sipush 256, 3) := by decide +kernel
theorem dJ6_numberOfTrailingZeros_0f7a4_38 : decode cJ6_numberOfTrailingZeros_0f7a4 38 = .ok (.if_icmp .le 11, 3) := by decide +kernel
theorem dJ6_numberOfTrailingZeros_0f7a4_41 : decode cJ6_numberOfTrailingZeros_0f7a4 41 = .ok (.iinc 1 8, 3) := by decide +kernel
theorem dJ6_numberOfTrailingZeros_0f7a4_44 : decode cJ6_numberOfTrailingZeros_0f7a4 44 = .ok (.iload_n 0, 1) := by decide +kernel
theorem dJ6_numberOfTrailingZeros_0f7a4_45 : decode cJ6_numberOfTrailingZeros_0f7a4 45 = .ok (.bipush 8, 2) := by decide +kernel
theorem dJ6_numberOfTrailingZeros_0f7a4_47 : decode cJ6_numberOfTrailingZeros_0f7a4 47 = .ok (.iushr, 1) := by decide +kernel
theorem dJ6_numberOfTrailingZeros_0f7a4_48 : decode cJ6_numberOfTrailingZeros_0f7a4 48 = .ok (.istore_n 0, 1) := by decide +kernel
theorem dJ6_numberOfTrailingZeros_0f7a4_49 : decode cJ6_numberOfTrailingZeros_0f7a4 49 = .ok (.iload_n 0, 1) := by decide +kernel
theorem dJ6_numberOfTrailingZeros_0f7a4_50 : decode cJ6_numberOfTrailingZeros_0f7a4 50 = .ok (.bipush 16, 2) := by decide +kernel
theorem dJ6_numberOfTrailingZeros_0f7a4_52 : decode cJ6_numberOfTrailingZeros_0f7a4 52 = .ok (.if_icmp .le 10, 3) := by decide +kernel
theorem dJ6_numberOfTrailingZeros_0f7a4_55 : decode cJ6_numberOfTrailingZeros_0f7a4 55 = .ok (.iinc 1 4, 3) := by decide +kernel
theorem dJ6_numberOfTrailingZeros_0f7a4_58 : decode cJ6_numberOfTrailingZeros_0f7a4 58 = .ok (.iload_n 0, 1) := by decide +kernel
theorem dJ6_numberOfTrailingZeros_0f7a4_59 : decode cJ6_numberOfTrailingZeros_0f7a4 59 = .ok (.iconst 4, 1) := by decide +kernel
theorem dJ6_numberOfTrailingZeros_0f7a4_60 : decode cJ6_numberOfTrailingZeros_0f7a4 60 = .ok (.iushr, 1) := by decide +kernel
theorem dJ6_numberOfTrailingZeros_0f7a4_61 : decode cJ6_numberOfTrailingZeros_0f7a4 61 = .ok (.istore_n 0, 1) := by decide +kernel
theorem dJ6_numberOfTrailingZeros_0f7a4_62 : decode cJ6_numberOfTrailingZeros_0f7a4 62 = .ok (.iload_n 0, 1) := by decide +kernel
theorem dJ6_numberOfTrailingZeros_0f7a4_63 : decode cJ6_numberOfTrailingZeros_0f7a4 63 = .ok (.iconst 4, 1) := by decide +kernel
theorem dJ6_numberOfTrailingZeros_0f7a4_64 : decode cJ6_numberOfTrailingZeros_0f7a4 64 = .ok (.if_icmp .le 10, 3) := by decide +kernel
theorem dJ6_numberOfTrailingZeros_0f7a4_67 : decode cJ6_numberOfTrailingZeros_0f7a4 67 = .ok (.iinc 1 2, 3) := by decide +kernel
theorem dJ6_numberOfTrailingZeros_0f7a4_70 : decode cJ6_numberOfTrailingZeros_0f7a4 70 = .ok (.iload_n 0, 1) := by decide +kernel
theorem dJ6_numberOfTrailingZeros_0f7a4_71 : decode cJ6_numberOfTrailingZeros_0f7a4 71 = .ok (.iconst 2, 1) := by decide +kernel
theorem dJ6_numberOfTrailingZeros_0f7a4_72 : decode cJ6_numberOfTrailingZeros_0f7a4 72 = .ok (.iushr, 1) := by decide +kernel
theorem dJ6_numberOfTrailingZeros_0f7a4_73 : decode cJ6_numberOfTrailingZeros_0f7a4 73 = .ok (.istore_n 0, 1) := by decide +kernel
theorem dJ6_numberOfTrailingZeros_0f7a4_74 : decode cJ6_numberOfTrailingZeros_0f7a4 74 = .ok (.iload_n 1, 1) := by decide +kernel
theorem dJ6_numberOfTrailingZeros_0f7a4_75 : decode cJ6_numberOfTrailingZeros_0f7a4 75 = .ok (.iload_n 0, 1) := by decide +kernel
theorem dJ6_numberOfTrailingZeros_0f7a4_76 : decode cJ6_numberOfTrailingZeros_0f7a4 76 = .ok (.iconst 1, 1) := by decide +kernel
theorem dJ6_numberOfTrailingZeros_0f7a4_77 : decode cJ6_numberOfTrailingZeros_0f7a4 77 = .ok (.iushr, 1) := by decide +kernel
theorem dJ6_numberOfTrailingZeros_0f7a4_78 : decode cJ6_numberOfTrailingZeros_0f7a4 78 = .ok (.iadd, 1) := by decide +kernel
theorem dJ6_numberOfTrailingZeros_0f7a4_79 : decode cJ6_numberOfTrailingZeros_0f7a4 79 = .ok (.ireturn, 1) := by decide +kernel
theorem dJ6_bitCount_0f7a4_0 : decode cJ6_bitCount_0f7a4 0 = .ok (.iload_n 0, 1) := by decide +kernel
theorem dJ6_bitCount_0f7a4_1 : decode cJ6_bitCount_0f7a4 1 = .ok (.iload_n 0, 1) := by decide +kernel
theorem dJ6_bitCount_0f7a4_2 : decode cJ6_bitCount_0f7a4 2 = .ok (.iconst 1, 1) := by decide +kernel
theorem dJ6_bitCount_0f7a4_3 : decode cJ6_bitCount_0f7a4 3 = .ok (.iushr, 1) := by decide +kernel
theorem dJ6_bitCount_0f7a4_4 : decode cJ6_bitCount_0f7a4 4 = .ok (.ldc_w 265, 3) := by decide +kernel
theorem dJ6_bitCount_0f7a4_7 : decode cJ6_bitCount_0f7a4 7 = .ok (.iand, 1) := by decide +kernel
theorem dJ6_bitCount_0f7a4_8 : decode cJ6_bitCount_0f7a4 8 = .ok (.isub, 1) := by decide +kernel
theorem dJ6_bitCount_0f7a4_9 : decode cJ6_bitCount_0f7a4 9 = .ok (.istore_n 0, 1) := by decide +kernel
theorem dJ6_bitCount_0f7a4_10 : decode cJ6_bitCount_0f7a4 10 = .ok (.iload_n 0, 1) := by decide +kernel
theorem dJ6_bitCount_0f7a4_11 : decode cJ6_bitCount_0f7a4 11 = .ok (.ldc_w 266, 3) := by decide +kernel
theorem dJ6_bitCount_0f7a4_14 : decode cJ6_bitCount_0f7a4 14 = .ok (.iand, 1) := by decide +kernel
theorem dJ6_bitCount_0f7a4_15 : decode cJ6_bitCount_0f7a4 15 = .ok (.iload_n 0, 1) := by decide +kernel
theorem dJ6_bitCount_0f7a4_16 : decode cJ6_bitCount_0f7a4 16 = .ok (.iconst 2, 1) := by decide +kernel
theorem dJ6_bitCount_0f7a4_17 : decode cJ6_bitCount_0f7a4 17 = .ok (.iushr, 1) := by decide +kernel
theorem dJ6_bitCount_0f7a4_18 : decode cJ6_bitCount_0f7a4 18 = .ok (.ldc_w 266, 3) := by decide +kernel
theorem dJ6_bitCount_0f7a4_21 : decode cJ6_bitCount_0f7a4 21 = .ok (.iand, 1) := by decide +kernel
theorem dJ6_bitCount_0f7a4_22 : decode cJ6_bitCount_0f7a4 22 = .ok (.iadd, 1) := by decide +kernel
theorem dJ6_bitCount_0f7a4_23 : decode cJ6_bitCount_0f7a4 23 = .ok (.istore_n 0, 1) := by decide +kernel
theorem dJ6_bitCount_0f7a4_24 : decode cJ6_bitCount_0f7a4 24 = .ok (.iload_n 0, 1) := by decide +kernel
theorem dJ6_bitCount_0f7a4_25 : decode cJ6_bitCount_0f7a4 25 = .ok (.iload_n 0, 1) := by decide +kernel
theorem dJ6_bitCount_0f7a4_26 : decode cJ6_bitCount_0f7a4 26 = .ok (.iconst 4, 1) := by decide +kernel
theorem dJ6_bitCount_0f7a4_27 : decode cJ6_bitCount_0f7a4 27 = .ok (.iushr, 1) := by decide +kernel
theorem dJ6_bitCount_0f7a4_28 : decode cJ6_bitCount_0f7a4 28 = .ok (.iadd, 1) := by decide +kernel
theorem dJ6_bitCount_0f7a4_29 : decode cJ6_bitCount_0f7a4 29 = .ok (.ldc_w 267, 3) := by decide +kernel
theorem dJ6_bitCount_0f7a4_32 : decode cJ6_bitCount_0f7a4 32 = .ok (.iand, 1) := by decide +kernel
theorem dJ6_bitCount_0f7a4_33 : decode cJ6_bitCount_0f7a4 33 = .ok (.istore_n 0, 1) := by decide +kernel
theorem dJ6_bitCount_0f7a4_34 : decode cJ6_bitCount_0f7a4 34 = .ok (.iload_n 0, 1) := by decide +kernel
theorem dJ6_bitCount_0f7a4_35 : decode cJ6_bitCount_0f7a4 35 = .ok (.iload_n 0, 1) := by decide +kernel
theorem dJ6_bitCount_0f7a4_36 : decode cJ6_bitCount_0f7a4 36 = .ok (.bipush 8, 2) := by decide +kernel
theorem dJ6_bitCount_0f7a4_38 : decode cJ6_bitCount_0f7a4 38 = .ok (.iushr, 1) := by decide +kernel
theorem dJ6_bitCount_0f7a4_39 : decode cJ6_bitCount_0f7a4 39 = .ok (.iadd, 1) := by decide +kernel
theorem dJ6_bitCount_0f7a4_40 : decode cJ6_bitCount_0f7a4 40 = .ok (.istore_n 0, 1) := by decide +kernel
theorem dJ6_bitCount_0f7a4_41 : decode cJ6_bitCount_0f7a4 41 = .ok (.iload_n 0, 1) := by decide +kernel
theorem dJ6_bitCount_0f7a4_42 : decode cJ6_bitCount_0f7a4 42 = .ok (.iload_n 0, 1) := by decide +kernel
theorem dJ6_bitCount_0f7a4_43 : decode cJ6_bitCount_0f7a4 43 = .ok (.bipush 16, 2) := by decide +kernel
theorem dJ6_bitCount_0f7a4_45 : decode cJ6_bitCount_0f7a4 45 = .ok (.iushr, 1) := by decide +kernel
theorem dJ6_bitCount_0f7a4_46 : decode cJ6_bitCount_0f7a4 46 = .ok (.iadd, 1) := by decide +kernel
theorem dJ6_bitCount_0f7a4_47 : decode cJ6_bitCount_0f7a4 47 = .ok (.istore_n 0, 1) := by decide +kernel
theorem dJ6_bitCount_0f7a4_48 : decode cJ6_bitCount_0f7a4 48 = .ok (.iload_n 0, 1) := by decide +kernel
theorem dJ6_bitCount_0f7a4_49 : decode cJ6_bitCount_0f7a4 49 = .ok (.bipush 63, 2) := by decide +kernel
theorem dJ6_bitCount_0f7a4_51 : decode cJ6_bitCount_0f7a4 51 = .ok (.iand, 1) := by decide +kernel
theorem dJ6_bitCount_0f7a4_52 : decode cJ6_bitCount_0f7a4 52 = .ok (.ireturn, 1) := by decide +kernel
theorem dJ9_max_7cf53_0 : decode cJ9_max_7cf53 0 = .ok (.iload_n 0, 1) := by decide +kernel
theorem dJ9_max_7cf53_1 : decode cJ9_max_7cf53 1 = .ok (.iload_n 1, 1) := by decide +kernel
theorem dJ9_max_7cf53_2 : decode cJ9_max_7cf53 2 = .ok (.if_icmp .lt 7, 3) := by decide +kernel
theorem dJ9_max_7cf53_5 : decode cJ9_max_7cf53 5 = .ok (.iload_n 0, 1) := by decide +kernel
theorem dJ9_max_7cf53_6 : decode cJ9_max_7cf53 6 = .ok (.goto 4, 3) := by decide +kernel
theorem dJ9_max_7cf53_9 : decode cJ9_max_7cf53 9 = .ok (.iload_n 1, 1) := by decide +kernel
theorem dJ9_max_7cf53_10 : decode cJ9_max_7cf53 10 = .ok (.ireturn, 1) := by decide +kernel
theorem dJ9_min_7cf53_0 : decode cJ9_min_7cf53 0 = .ok (.iload_n 0, 1) := by decide +kernel
theorem dJ9_min_7cf53_1 : decode cJ9_min_7cf53 1 = .ok (.iload_n 1, 1) := by decide +kernel
theorem dJ9_min_7cf53_2 : decode cJ9_min_7cf53 2 = .ok (.if_icmp .gt 7, 3) := by decide +kernel
theorem dJ9_min_7cf53_5 : decode cJ9_min_7cf53 5 = .ok (.iload_n 0, 1) := by decide +kernel
theorem dJ9_min_7cf53_6 : decode cJ9_min_7cf53 6 = .ok (.goto 4, 3) := by decide +kernel
theorem dJ9_min_7cf53_9 : decode cJ9_min_7cf53 9 = .ok (.iload_n 1, 1) := by decide +kernel
theorem dJ9_min_7cf53_10 : decode cJ9_min_7cf53 10 = .ok (.ireturn, 1) := by decide +kernel
theorem dL_law_0 : decode cL_law 0 = .ok (.new 7, 3) := by decide +kernel
theorem dL_law_3 : decode cL_law 3 = .ok (.dup, 1) := by decide +kernel
theorem dL_law_4 : decode cL_law 4 = .ok (.invokespecial 9, 3) := by decide +kernel
theorem dL_law_7 : decode cL_law 7 = .ok (.astore_n 1, 1) := by decide +kernel
theorem dL_law_8 : decode cL_law 8 = .ok (.new 10, 3) := by decide +kernel
theorem dL_law_11 : decode cL_law 11 = .ok (.dup, 1) := by decide +kernel
theorem dL_law_12 : decode cL_law 12 = .ok (.invokespecial 12, 3) := by decide +kernel
theorem dL_law_15 : decode cL_law 15 = .ok (.astore_n 2, 1) := by decide +kernel
theorem dL_law_16 : decode cL_law 16 = .ok (.iconst 0, 1) := by decide +kernel
theorem dL_law_17 : decode cL_law 17 = .ok (.istore_n 3, 1) := by decide +kernel
theorem dL_law_18 : decode cL_law 18 = .ok (.iload_n 3, 1) := by decide +kernel
theorem dL_law_19 : decode cL_law 19 = .ok (.aload_n 0, 1) := by decide +kernel
theorem dL_law_20 : decode cL_law 20 = .ok (.arraylength, 1) := by decide +kernel
theorem dL_law_21 : decode cL_law 21 = .ok (.bipush 6, 2) := by decide +kernel
theorem dL_law_23 : decode cL_law 23 = .ok (.isub, 1) := by decide +kernel
theorem dL_law_24 : decode cL_law 24 = .ok (.if_icmp .gt 1257, 3) := by decide +kernel
theorem dL_law_27 : decode cL_law 27 = .ok (.aload_n 0, 1) := by decide +kernel
theorem dL_law_28 : decode cL_law 28 = .ok (.iload_n 3, 1) := by decide +kernel
theorem dL_law_29 : decode cL_law 29 = .ok (.iaload, 1) := by decide +kernel
theorem dL_law_30 : decode cL_law 30 = .ok (.bipush 63, 2) := by decide +kernel
theorem dL_law_32 : decode cL_law 32 = .ok (.iand, 1) := by decide +kernel
theorem dL_law_33 : decode cL_law 33 = .ok (.tableswitch 1242 0 34 #[155, 188, 211, 234, 257, 290, 323, 356, 379, 412, 445, 478, 521, 554, 577, 590, 623, 656, 679, 712, 755, 768, 791, 804, 837, 860, 914, 947, 990, 1013, 1066, 1109, 1172, 1205, 1228], 155) := by decide +kernel
theorem dL_law_188 : decode cL_law 188 = .ok (.aload_n 1, 1) := by decide +kernel
theorem dL_law_189 : decode cL_law 189 = .ok (.aload_n 0, 1) := by decide +kernel
theorem dL_law_190 : decode cL_law 190 = .ok (.iload_n 3, 1) := by decide +kernel
theorem dL_law_191 : decode cL_law 191 = .ok (.iconst 1, 1) := by decide +kernel
theorem dL_law_192 : decode cL_law 192 = .ok (.iadd, 1) := by decide +kernel
theorem dL_law_193 : decode cL_law 193 = .ok (.iaload, 1) := by decide +kernel
theorem dL_law_194 : decode cL_law 194 = .ok (.aload_n 0, 1) := by decide +kernel
theorem dL_law_195 : decode cL_law 195 = .ok (.iload_n 3, 1) := by decide +kernel
theorem dL_law_196 : decode cL_law 196 = .ok (.iconst 2, 1) := by decide +kernel
theorem dL_law_197 : decode cL_law 197 = .ok (.iadd, 1) := by decide +kernel
theorem dL_law_198 : decode cL_law 198 = .ok (.iaload, 1) := by decide +kernel
theorem dL_law_199 : decode cL_law 199 = .ok (.invokevirtual 13, 3) := by decide +kernel
theorem dL_law_202 : decode cL_law 202 = .ok (.aload_n 2, 1) := by decide +kernel
theorem dL_law_203 : decode cL_law 203 = .ok (.aload_n 0, 1) := by decide +kernel
theorem dL_law_204 : decode cL_law 204 = .ok (.iload_n 3, 1) := by decide +kernel
theorem dL_law_205 : decode cL_law 205 = .ok (.iconst 1, 1) := by decide +kernel
theorem dL_law_206 : decode cL_law 206 = .ok (.iadd, 1) := by decide +kernel
theorem dL_law_207 : decode cL_law 207 = .ok (.iaload, 1) := by decide +kernel
theorem dL_law_208 : decode cL_law 208 = .ok (.aload_n 0, 1) := by decide +kernel
theorem dL_law_209 : decode cL_law 209 = .ok (.iload_n 3, 1) := by decide +kernel
theorem dL_law_210 : decode cL_law 210 = .ok (.iconst 2, 1) := by decide +kernel
theorem dL_law_211 : decode cL_law 211 = .ok (.iadd, 1) := by decide +kernel
theorem dL_law_212 : decode cL_law 212 = .ok (.iaload, 1) := by decide +kernel
theorem dL_law_213 : decode cL_law 213 = .ok (.invokevirtual 17, 3) := by decide +kernel
theorem dL_law_216 : decode cL_law 216 = .ok (.if_icmp .eq 1059, 3) := by decide +kernel
theorem dL_law_219 : decode cL_law 219 = .ok (.iconst 0, 1) := by decide +kernel
theorem dL_law_220 : decode cL_law 220 = .ok (.ireturn, 1) := by decide +kernel
theorem dL_law_221 : decode cL_law 221 = .ok (.aload_n 1, 1) := by decide +kernel
theorem dL_law_222 : decode cL_law 222 = .ok (.aload_n 0, 1) := by decide +kernel
theorem dL_law_223 : decode cL_law 223 = .ok (.iload_n 3, 1) := by decide +kernel
theorem dL_law_224 : decode cL_law 224 = .ok (.iconst 1, 1) := by decide +kernel
theorem dL_law_225 : decode cL_law 225 = .ok (.iadd, 1) := by decide +kernel
theorem dL_law_226 : decode cL_law 226 = .ok (.iaload, 1) := by decide +kernel
theorem dL_law_227 : decode cL_law 227 = .ok (.invokevirtual 18, 3) := by decide +kernel
theorem dL_law_230 : decode cL_law 230 = .ok (.aload_n 2, 1) := by decide +kernel
theorem dL_law_231 : decode cL_law 231 = .ok (.aload_n 0, 1) := by decide +kernel
theorem dL_law_232 : decode cL_law 232 = .ok (.iload_n 3, 1) := by decide +kernel
theorem dL_law_233 : decode cL_law 233 = .ok (.iconst 1, 1) := by decide +kernel
theorem dL_law_234 : decode cL_law 234 = .ok (.iadd, 1) := by decide +kernel
theorem dL_law_235 : decode cL_law 235 = .ok (.iaload, 1) := by decide +kernel
theorem dL_law_236 : decode cL_law 236 = .ok (.invokevirtual 22, 3) := by decide +kernel
theorem dL_law_239 : decode cL_law 239 = .ok (.if_icmp .eq 1036, 3) := by decide +kernel
theorem dL_law_242 : decode cL_law 242 = .ok (.iconst 0, 1) := by decide +kernel
theorem dL_law_243 : decode cL_law 243 = .ok (.ireturn, 1) := by decide +kernel
theorem dL_law_244 : decode cL_law 244 = .ok (.aload_n 1, 1) := by decide +kernel
theorem dL_law_245 : decode cL_law 245 = .ok (.aload_n 0, 1) := by decide +kernel
theorem dL_law_246 : decode cL_law 246 = .ok (.iload_n 3, 1) := by decide +kernel
theorem dL_law_247 : decode cL_law 247 = .ok (.iconst 1, 1) := by decide +kernel
theorem dL_law_248 : decode cL_law 248 = .ok (.iadd, 1) := by decide +kernel
theorem dL_law_249 : decode cL_law 249 = .ok (.iaload, 1) := by decide +kernel
theorem dL_law_250 : decode cL_law 250 = .ok (.invokevirtual 23, 3) := by decide +kernel
theorem dL_law_253 : decode cL_law 253 = .ok (.aload_n 2, 1) := by decide +kernel
theorem dL_law_254 : decode cL_law 254 = .ok (.aload_n 0, 1) := by decide +kernel
theorem dL_law_255 : decode cL_law 255 = .ok (.iload_n 3, 1) := by decide +kernel
theorem dL_law_256 : decode cL_law 256 = .ok (.iconst 1, 1) := by decide +kernel
theorem dL_law_257 : decode cL_law 257 = .ok (.iadd, 1) := by decide +kernel
theorem dL_law_258 : decode cL_law 258 = .ok (.iaload, 1) := by decide +kernel
theorem dL_law_259 : decode cL_law 259 = .ok (.invokevirtual 26, 3) := by decide +kernel
theorem dL_law_262 : decode cL_law 262 = .ok (.if_icmp .eq 1013, 3) := by decide +kernel
theorem dL_law_265 : decode cL_law 265 = .ok (.iconst 0, 1) := by decide +kernel
theorem dL_law_266 : decode cL_law 266 = .ok (.ireturn, 1) := by decide +kernel
theorem dL_law_267 : decode cL_law 267 = .ok (.aload_n 1, 1) := by decide +kernel
theorem dL_law_268 : decode cL_law 268 = .ok (.aload_n 0, 1) := by decide +kernel
theorem dL_law_269 : decode cL_law 269 = .ok (.iload_n 3, 1) := by decide +kernel
theorem dL_law_270 : decode cL_law 270 = .ok (.iconst 1, 1) := by decide +kernel
theorem dL_law_271 : decode cL_law 271 = .ok (.iadd, 1) := by decide +kernel
theorem dL_law_272 : decode cL_law 272 = .ok (.iaload, 1) := by decide +kernel
theorem dL_law_273 : decode cL_law 273 = .ok (.invokevirtual 27, 3) := by decide +kernel
theorem dL_law_276 : decode cL_law 276 = .ok (.aload_n 2, 1) := by decide +kernel
theorem dL_law_277 : decode cL_law 277 = .ok (.aload_n 0, 1) := by decide +kernel
theorem dL_law_278 : decode cL_law 278 = .ok (.iload_n 3, 1) := by decide +kernel
theorem dL_law_279 : decode cL_law 279 = .ok (.iconst 1, 1) := by decide +kernel
theorem dL_law_280 : decode cL_law 280 = .ok (.iadd, 1) := by decide +kernel
theorem dL_law_281 : decode cL_law 281 = .ok (.iaload, 1) := by decide +kernel
theorem dL_law_282 : decode cL_law 282 = .ok (.invokevirtual 30, 3) := by decide +kernel
theorem dL_law_285 : decode cL_law 285 = .ok (.if_icmp .eq 990, 3) := by decide +kernel
theorem dL_law_288 : decode cL_law 288 = .ok (.iconst 0, 1) := by decide +kernel
theorem dL_law_289 : decode cL_law 289 = .ok (.ireturn, 1) := by decide +kernel
theorem dL_law_290 : decode cL_law 290 = .ok (.aload_n 1, 1) := by decide +kernel
theorem dL_law_291 : decode cL_law 291 = .ok (.aload_n 0, 1) := by decide +kernel
theorem dL_law_292 : decode cL_law 292 = .ok (.iload_n 3, 1) := by decide +kernel
theorem dL_law_293 : decode cL_law 293 = .ok (.iconst 1, 1) := by decide +kernel
theorem dL_law_294 : decode cL_law 294 = .ok (.iadd, 1) := by decide +kernel
theorem dL_law_295 : decode cL_law 295 = .ok (.iaload, 1) := by decide +kernel
theorem dL_law_296 : decode cL_law 296 = .ok (.aload_n 0, 1) := by decide +kernel
theorem dL_law_297 : decode cL_law 297 = .ok (.iload_n 3, 1) := by decide +kernel
theorem dL_law_298 : decode cL_law 298 = .ok (.iconst 2, 1) := by decide +kernel
theorem dL_law_299 : decode cL_law 299 = .ok (.iadd, 1) := by decide +kernel
theorem dL_law_300 : decode cL_law 300 = .ok (.iaload, 1) := by decide +kernel
theorem dL_law_301 : decode cL_law 301 = .ok (.invokevirtual 31, 3) := by decide +kernel
theorem dL_law_304 : decode cL_law 304 = .ok (.aload_n 2, 1) := by decide +kernel
theorem dL_law_305 : decode cL_law 305 = .ok (.aload_n 0, 1) := by decide +kernel
theorem dL_law_306 : decode cL_law 306 = .ok (.iload_n 3, 1) := by decide +kernel
theorem dL_law_307 : decode cL_law 307 = .ok (.iconst 1, 1) := by decide +kernel
theorem dL_law_308 : decode cL_law 308 = .ok (.iadd, 1) := by decide +kernel
theorem dL_law_309 : decode cL_law 309 = .ok (.iaload, 1) := by decide +kernel
theorem dL_law_310 : decode cL_law 310 = .ok (.aload_n 0, 1) := by decide +kernel
theorem dL_law_311 : decode cL_law 311 = .ok (.iload_n 3, 1) := by decide +kernel
theorem dL_law_312 : decode cL_law 312 = .ok (.iconst 2, 1) := by decide +kernel
theorem dL_law_313 : decode cL_law 313 = .ok (.iadd, 1) := by decide +kernel
theorem dL_law_314 : decode cL_law 314 = .ok (.iaload, 1) := by decide +kernel
theorem dL_law_315 : decode cL_law 315 = .ok (.invokevirtual 34, 3) := by decide +kernel
theorem dL_law_318 : decode cL_law 318 = .ok (.if_icmp .eq 957, 3) := by decide +kernel
theorem dL_law_321 : decode cL_law 321 = .ok (.iconst 0, 1) := by decide +kernel
theorem dL_law_322 : decode cL_law 322 = .ok (.ireturn, 1) := by decide +kernel
theorem dL_law_323 : decode cL_law 323 = .ok (.aload_n 1, 1) := by decide +kernel
theorem dL_law_324 : decode cL_law 324 = .ok (.aload_n 0, 1) := by decide +kernel
theorem dL_law_325 : decode cL_law 325 = .ok (.iload_n 3, 1) := by decide +kernel
theorem dL_law_326 : decode cL_law 326 = .ok (.iconst 1, 1) := by decide +kernel
theorem dL_law_327 : decode cL_law 327 = .ok (.iadd, 1) := by decide +kernel
theorem dL_law_328 : decode cL_law 328 = .ok (.iaload, 1) := by decide +kernel
theorem dL_law_329 : decode cL_law 329 = .ok (.aload_n 0, 1) := by decide +kernel
theorem dL_law_330 : decode cL_law 330 = .ok (.iload_n 3, 1) := by decide +kernel
theorem dL_law_331 : decode cL_law 331 = .ok (.iconst 2, 1) := by decide +kernel
theorem dL_law_332 : decode cL_law 332 = .ok (.iadd, 1) := by decide +kernel
theorem dL_law_333 : decode cL_law 333 = .ok (.iaload, 1) := by decide +kernel
theorem dL_law_334 : decode cL_law 334 = .ok (.invokevirtual 35, 3) := by decide +kernel
theorem dL_law_337 : decode cL_law 337 = .ok (.aload_n 2, 1) := by decide +kernel
theorem dL_law_338 : decode cL_law 338 = .ok (.aload_n 0, 1) := by decide +kernel
theorem dL_law_339 : decode cL_law 339 = .ok (.iload_n 3, 1) := by decide +kernel
theorem dL_law_340 : decode cL_law 340 = .ok (.iconst 1, 1) := by decide +kernel
theorem dL_law_341 : decode cL_law 341 = .ok (.iadd, 1) := by decide +kernel
theorem dL_law_342 : decode cL_law 342 = .ok (.iaload, 1) := by decide +kernel
theorem dL_law_343 : decode cL_law 343 = .ok (.aload_n 0, 1) := by decide +kernel
theorem dL_law_344 : decode cL_law 344 = .ok (.iload_n 3, 1) := by decide +kernel
theorem dL_law_345 : decode cL_law 345 = .ok (.iconst 2, 1) := by decide +kernel
theorem dL_law_346 : decode cL_law 346 = .ok (.iadd, 1) := by decide +kernel
theorem dL_law_347 : decode cL_law 347 = .ok (.iaload, 1) := by decide +kernel
theorem dL_law_348 : decode cL_law 348 = .ok (.invokevirtual 38, 3) := by decide +kernel
theorem dL_law_351 : decode cL_law 351 = .ok (.if_icmp .eq 924, 3) := by decide +kernel
theorem dL_law_354 : decode cL_law 354 = .ok (.iconst 0, 1) := by decide +kernel
theorem dL_law_355 : decode cL_law 355 = .ok (.ireturn, 1) := by decide +kernel
theorem dL_law_356 : decode cL_law 356 = .ok (.aload_n 1, 1) := by decide +kernel
theorem dL_law_357 : decode cL_law 357 = .ok (.aload_n 0, 1) := by decide +kernel
theorem dL_law_358 : decode cL_law 358 = .ok (.iload_n 3, 1) := by decide +kernel
theorem dL_law_359 : decode cL_law 359 = .ok (.iconst 1, 1) := by decide +kernel
theorem dL_law_360 : decode cL_law 360 = .ok (.iadd, 1) := by decide +kernel
theorem dL_law_361 : decode cL_law 361 = .ok (.iaload, 1) := by decide +kernel
theorem dL_law_362 : decode cL_law 362 = .ok (.aload_n 0, 1) := by decide +kernel
theorem dL_law_363 : decode cL_law 363 = .ok (.iload_n 3, 1) := by decide +kernel
theorem dL_law_364 : decode cL_law 364 = .ok (.iconst 2, 1) := by decide +kernel
theorem dL_law_365 : decode cL_law 365 = .ok (.iadd, 1) := by decide +kernel
theorem dL_law_366 : decode cL_law 366 = .ok (.iaload, 1) := by decide +kernel
theorem dL_law_367 : decode cL_law 367 = .ok (.invokevirtual 39, 3) := by decide +kernel
theorem dL_law_370 : decode cL_law 370 = .ok (.aload_n 2, 1) := by decide +kernel
theorem dL_law_371 : decode cL_law 371 = .ok (.aload_n 0, 1) := by decide +kernel
theorem dL_law_372 : decode cL_law 372 = .ok (.iload_n 3, 1) := by decide +kernel
theorem dL_law_373 : decode cL_law 373 = .ok (.iconst 1, 1) := by decide +kernel
theorem dL_law_374 : decode cL_law 374 = .ok (.iadd, 1) := by decide +kernel
theorem dL_law_375 : decode cL_law 375 = .ok (.iaload, 1) := by decide +kernel
theorem dL_law_376 : decode cL_law 376 = .ok (.aload_n 0, 1) := by decide +kernel
theorem dL_law_377 : decode cL_law 377 = .ok (.iload_n 3, 1) := by decide +kernel
theorem dL_law_378 : decode cL_law 378 = .ok (.iconst 2, 1) := by decide +kernel
theorem dL_law_379 : decode cL_law 379 = .ok (.iadd, 1) := by decide +kernel
theorem dL_law_380 : decode cL_law 380 = .ok (.iaload, 1) := by decide +kernel
theorem dL_law_381 : decode cL_law 381 = .ok (.invokevirtual 42, 3) := by decide +kernel
theorem dL_law_384 : decode cL_law 384 = .ok (.if_icmp .eq 891, 3) := by decide +kernel
theorem dL_law_387 : decode cL_law 387 = .ok (.iconst 0, 1) := by decide +kernel
theorem dL_law_388 : decode cL_law 388 = .ok (.ireturn, 1) := by decide +kernel
theorem dL_law_389 : decode cL_law 389 = .ok (.aload_n 1, 1) := by decide +kernel
theorem dL_law_390 : decode cL_law 390 = .ok (.aload_n 0, 1) := by decide +kernel
theorem dL_law_391 : decode cL_law 391 = .ok (.iload_n 3, 1) := by decide +kernel
theorem dL_law_392 : decode cL_law 392 = .ok (.iconst 1, 1) := by decide +kernel
theorem dL_law_393 : decode cL_law 393 = .ok (.iadd, 1) := by decide +kernel
theorem dL_law_394 : decode cL_law 394 = .ok (.iaload, 1) := by decide +kernel
theorem dL_law_395 : decode cL_law 395 = .ok (.invokevirtual 43, 3) := by decide +kernel
theorem dL_law_398 : decode cL_law 398 = .ok (.aload_n 2, 1) := by decide +kernel
theorem dL_law_399 : decode cL_law 399 = .ok (.aload_n 0, 1) := by decide +kernel
theorem dL_law_400 : decode cL_law 400 = .ok (.iload_n 3, 1) := by decide +kernel
theorem dL_law_401 : decode cL_law 401 = .ok (.iconst 1, 1) := by decide +kernel
theorem dL_law_402 : decode cL_law 402 = .ok (.iadd, 1) := by decide +kernel
theorem dL_law_403 : decode cL_law 403 = .ok (.iaload, 1) := by decide +kernel
theorem dL_law_404 : decode cL_law 404 = .ok (.invokevirtual 46, 3) := by decide +kernel
theorem dL_law_407 : decode cL_law 407 = .ok (.if_icmp .eq 868, 3) := by decide +kernel
theorem dL_law_410 : decode cL_law 410 = .ok (.iconst 0, 1) := by decide +kernel
theorem dL_law_411 : decode cL_law 411 = .ok (.ireturn, 1) := by decide +kernel
theorem dL_law_412 : decode cL_law 412 = .ok (.aload_n 1, 1) := by decide +kernel
theorem dL_law_413 : decode cL_law 413 = .ok (.aload_n 0, 1) := by decide +kernel
theorem dL_law_414 : decode cL_law 414 = .ok (.iload_n 3, 1) := by decide +kernel
theorem dL_law_415 : decode cL_law 415 = .ok (.iconst 1, 1) := by decide +kernel
theorem dL_law_416 : decode cL_law 416 = .ok (.iadd, 1) := by decide +kernel
theorem dL_law_417 : decode cL_law 417 = .ok (.iaload, 1) := by decide +kernel
theorem dL_law_418 : decode cL_law 418 = .ok (.aload_n 0, 1) := by decide +kernel
theorem dL_law_419 : decode cL_law 419 = .ok (.iload_n 3, 1) := by decide +kernel
theorem dL_law_420 : decode cL_law 420 = .ok (.iconst 2, 1) := by decide +kernel
theorem dL_law_421 : decode cL_law 421 = .ok (.iadd, 1) := by decide +kernel
theorem dL_law_422 : decode cL_law 422 = .ok (.iaload, 1) := by decide +kernel
theorem dL_law_423 : decode cL_law 423 = .ok (.invokevirtual 47, 3) := by decide +kernel
theorem dL_law_426 : decode cL_law 426 = .ok (.aload_n 2, 1) := by decide +kernel
theorem dL_law_427 : decode cL_law 427 = .ok (.aload_n 0, 1) := by decide +kernel
theorem dL_law_428 : decode cL_law 428 = .ok (.iload_n 3, 1) := by decide +kernel
theorem dL_law_429 : decode cL_law 429 = .ok (.iconst 1, 1) := by decide +kernel
theorem dL_law_430 : decode cL_law 430 = .ok (.iadd, 1) := by decide +kernel
theorem dL_law_431 : decode cL_law 431 = .ok (.iaload, 1) := by decide +kernel
theorem dL_law_432 : decode cL_law 432 = .ok (.aload_n 0, 1) := by decide +kernel
theorem dL_law_433 : decode cL_law 433 = .ok (.iload_n 3, 1) := by decide +kernel
theorem dL_law_434 : decode cL_law 434 = .ok (.iconst 2, 1) := by decide +kernel
theorem dL_law_435 : decode cL_law 435 = .ok (.iadd, 1) := by decide +kernel
theorem dL_law_436 : decode cL_law 436 = .ok (.iaload, 1) := by decide +kernel
theorem dL_law_437 : decode cL_law 437 = .ok (.invokevirtual 50, 3) := by decide +kernel
theorem dL_law_440 : decode cL_law 440 = .ok (.if_icmp .eq 835, 3) := by decide +kernel
theorem dL_law_443 : decode cL_law 443 = .ok (.iconst 0, 1) := by decide +kernel
theorem dL_law_444 : decode cL_law 444 = .ok (.ireturn, 1) := by decide +kernel
theorem dL_law_445 : decode cL_law 445 = .ok (.aload_n 1, 1) := by decide +kernel
theorem dL_law_446 : decode cL_law 446 = .ok (.aload_n 0, 1) := by decide +kernel
theorem dL_law_447 : decode cL_law 447 = .ok (.iload_n 3, 1) := by decide +kernel
theorem dL_law_448 : decode cL_law 448 = .ok (.iconst 1, 1) := by decide +kernel
theorem dL_law_449 : decode cL_law 449 = .ok (.iadd, 1) := by decide +kernel
theorem dL_law_450 : decode cL_law 450 = .ok (.iaload, 1) := by decide +kernel
theorem dL_law_451 : decode cL_law 451 = .ok (.aload_n 0, 1) := by decide +kernel
theorem dL_law_452 : decode cL_law 452 = .ok (.iload_n 3, 1) := by decide +kernel
theorem dL_law_453 : decode cL_law 453 = .ok (.iconst 2, 1) := by decide +kernel
theorem dL_law_454 : decode cL_law 454 = .ok (.iadd, 1) := by decide +kernel
theorem dL_law_455 : decode cL_law 455 = .ok (.iaload, 1) := by decide +kernel
theorem dL_law_456 : decode cL_law 456 = .ok (.invokevirtual 51, 3) := by decide +kernel
theorem dL_law_459 : decode cL_law 459 = .ok (.aload_n 2, 1) := by decide +kernel
theorem dL_law_460 : decode cL_law 460 = .ok (.aload_n 0, 1) := by decide +kernel
theorem dL_law_461 : decode cL_law 461 = .ok (.iload_n 3, 1) := by decide +kernel
theorem dL_law_462 : decode cL_law 462 = .ok (.iconst 1, 1) := by decide +kernel
theorem dL_law_463 : decode cL_law 463 = .ok (.iadd, 1) := by decide +kernel
theorem dL_law_464 : decode cL_law 464 = .ok (.iaload, 1) := by decide +kernel
theorem dL_law_465 : decode cL_law 465 = .ok (.aload_n 0, 1) := by decide +kernel
theorem dL_law_466 : decode cL_law 466 = .ok (.iload_n 3, 1) := by decide +kernel
theorem dL_law_467 : decode cL_law 467 = .ok (.iconst 2, 1) := by decide +kernel
theorem dL_law_468 : decode cL_law 468 = .ok (.iadd, 1) := by decide +kernel
theorem dL_law_469 : decode cL_law 469 = .ok (.iaload, 1) := by decide +kernel
theorem dL_law_470 : decode cL_law 470 = .ok (.invokevirtual 54, 3) := by decide +kernel
theorem dL_law_473 : decode cL_law 473 = .ok (.if_icmp .eq 802, 3) := by decide +kernel
theorem dL_law_476 : decode cL_law 476 = .ok (.iconst 0, 1) := by decide +kernel
theorem dL_law_477 : decode cL_law 477 = .ok (.ireturn, 1) := by decide +kernel
theorem dL_law_478 : decode cL_law 478 = .ok (.aload_n 1, 1) := by decide +kernel
theorem dL_law_479 : decode cL_law 479 = .ok (.aload_n 0, 1) := by decide +kernel
theorem dL_law_480 : decode cL_law 480 = .ok (.iload_n 3, 1) := by decide +kernel
theorem dL_law_481 : decode cL_law 481 = .ok (.iconst 1, 1) := by decide +kernel
theorem dL_law_482 : decode cL_law 482 = .ok (.iadd, 1) := by decide +kernel
theorem dL_law_483 : decode cL_law 483 = .ok (.iaload, 1) := by decide +kernel
theorem dL_law_484 : decode cL_law 484 = .ok (.aload_n 0, 1) := by decide +kernel
theorem dL_law_485 : decode cL_law 485 = .ok (.iload_n 3, 1) := by decide +kernel
theorem dL_law_486 : decode cL_law 486 = .ok (.iconst 2, 1) := by decide +kernel
theorem dL_law_487 : decode cL_law 487 = .ok (.iadd, 1) := by decide +kernel
theorem dL_law_488 : decode cL_law 488 = .ok (.iaload, 1) := by decide +kernel
theorem dL_law_489 : decode cL_law 489 = .ok (.invokevirtual 55, 3) := by decide +kernel
theorem dL_law_492 : decode cL_law 492 = .ok (.aload_n 2, 1) := by decide +kernel
theorem dL_law_493 : decode cL_law 493 = .ok (.aload_n 0, 1) := by decide +kernel
theorem dL_law_494 : decode cL_law 494 = .ok (.iload_n 3, 1) := by decide +kernel
theorem dL_law_495 : decode cL_law 495 = .ok (.iconst 1, 1) := by decide +kernel
theorem dL_law_496 : decode cL_law 496 = .ok (.iadd, 1) := by decide +kernel
theorem dL_law_497 : decode cL_law 497 = .ok (.iaload, 1) := by decide +kernel
theorem dL_law_498 : decode cL_law 498 = .ok (.aload_n 0, 1) := by decide +kernel
theorem dL_law_499 : decode cL_law 499 = .ok (.iload_n 3, 1) := by decide +kernel
theorem dL_law_500 : decode cL_law 500 = .ok (.iconst 2, 1) := by decide +kernel
theorem dL_law_501 : decode cL_law 501 = .ok (.iadd, 1) := by decide +kernel
theorem dL_law_502 : decode cL_law 502 = .ok (.iaload, 1) := by decide +kernel
theorem dL_law_503 : decode cL_law 503 = .ok (.invokevirtual 58, 3) := by decide +kernel
theorem dL_law_506 : decode cL_law 506 = .ok (.if_icmp .eq 769, 3) := by decide +kernel
theorem dL_law_509 : decode cL_law 509 = .ok (.iconst 0, 1) := by decide +kernel
theorem dL_law_510 : decode cL_law 510 = .ok (.ireturn, 1) := by decide +kernel
theorem dL_law_511 : decode cL_law 511 = .ok (.aload_n 1, 1) := by decide +kernel
theorem dL_law_512 : decode cL_law 512 = .ok (.aload_n 0, 1) := by decide +kernel
theorem dL_law_513 : decode cL_law 513 = .ok (.iload_n 3, 1) := by decide +kernel
theorem dL_law_514 : decode cL_law 514 = .ok (.iconst 1, 1) := by decide +kernel
theorem dL_law_515 : decode cL_law 515 = .ok (.iadd, 1) := by decide +kernel
theorem dL_law_516 : decode cL_law 516 = .ok (.iaload, 1) := by decide +kernel
theorem dL_law_517 : decode cL_law 517 = .ok (.aload_n 0, 1) := by decide +kernel
theorem dL_law_518 : decode cL_law 518 = .ok (.iload_n 3, 1) := by decide +kernel
theorem dL_law_519 : decode cL_law 519 = .ok (.iconst 2, 1) := by decide +kernel
theorem dL_law_520 : decode cL_law 520 = .ok (.iadd, 1) := by decide +kernel
theorem dL_law_521 : decode cL_law 521 = .ok (.iaload, 1) := by decide +kernel
theorem dL_law_522 : decode cL_law 522 = .ok (.aload_n 0, 1) := by decide +kernel
theorem dL_law_523 : decode cL_law 523 = .ok (.iload_n 3, 1) := by decide +kernel
theorem dL_law_524 : decode cL_law 524 = .ok (.iconst 3, 1) := by decide +kernel
theorem dL_law_525 : decode cL_law 525 = .ok (.iadd, 1) := by decide +kernel
theorem dL_law_526 : decode cL_law 526 = .ok (.iaload, 1) := by decide +kernel
theorem dL_law_527 : decode cL_law 527 = .ok (.invokevirtual 59, 3) := by decide +kernel
theorem dL_law_530 : decode cL_law 530 = .ok (.aload_n 2, 1) := by decide +kernel
theorem dL_law_531 : decode cL_law 531 = .ok (.aload_n 0, 1) := by decide +kernel
theorem dL_law_532 : decode cL_law 532 = .ok (.iload_n 3, 1) := by decide +kernel
theorem dL_law_533 : decode cL_law 533 = .ok (.iconst 1, 1) := by decide +kernel
theorem dL_law_534 : decode cL_law 534 = .ok (.iadd, 1) := by decide +kernel
theorem dL_law_535 : decode cL_law 535 = .ok (.iaload, 1) := by decide +kernel
theorem dL_law_536 : decode cL_law 536 = .ok (.aload_n 0, 1) := by decide +kernel
theorem dL_law_537 : decode cL_law 537 = .ok (.iload_n 3, 1) := by decide +kernel
theorem dL_law_538 : decode cL_law 538 = .ok (.iconst 2, 1) := by decide +kernel
theorem dL_law_539 : decode cL_law 539 = .ok (.iadd, 1) := by decide +kernel
theorem dL_law_540 : decode cL_law 540 = .ok (.iaload, 1) := by decide +kernel
theorem dL_law_541 : decode cL_law 541 = .ok (.aload_n 0, 1) := by decide +kernel
theorem dL_law_542 : decode cL_law 542 = .ok (.iload_n 3, 1) := by decide +kernel
theorem dL_law_543 : decode cL_law 543 = .ok (.iconst 3, 1) := by decide +kernel
theorem dL_law_544 : decode cL_law 544 = .ok (.iadd, 1) := by decide +kernel
theorem dL_law_545 : decode cL_law 545 = .ok (.iaload, 1) := by decide +kernel
theorem dL_law_546 : decode cL_law 546 = .ok (.invokevirtual 63, 3) := by decide +kernel
theorem dL_law_549 : decode cL_law 549 = .ok (.if_icmp .eq 726, 3) := by decide +kernel
theorem dL_law_552 : decode cL_law 552 = .ok (.iconst 0, 1) := by decide +kernel
theorem dL_law_553 : decode cL_law 553 = .ok (.ireturn, 1) := by decide +kernel
theorem dL_law_554 : decode cL_law 554 = .ok (.aload_n 1, 1) := by decide +kernel
theorem dL_law_555 : decode cL_law 555 = .ok (.aload_n 0, 1) := by decide +kernel
theorem dL_law_556 : decode cL_law 556 = .ok (.iload_n 3, 1) := by decide +kernel
theorem dL_law_557 : decode cL_law 557 = .ok (.iconst 1, 1) := by decide +kernel
theorem dL_law_558 : decode cL_law 558 = .ok (.iadd, 1) := by decide +kernel
theorem dL_law_559 : decode cL_law 559 = .ok (.iaload, 1) := by decide +kernel
theorem dL_law_560 : decode cL_law 560 = .ok (.aload_n 0, 1) := by decide +kernel
theorem dL_law_561 : decode cL_law 561 = .ok (.iload_n 3, 1) := by decide +kernel
theorem dL_law_562 : decode cL_law 562 = .ok (.iconst 2, 1) := by decide +kernel
theorem dL_law_563 : decode cL_law 563 = .ok (.iadd, 1) := by decide +kernel
theorem dL_law_564 : decode cL_law 564 = .ok (.iaload, 1) := by decide +kernel
theorem dL_law_565 : decode cL_law 565 = .ok (.invokevirtual 64, 3) := by decide +kernel
theorem dL_law_568 : decode cL_law 568 = .ok (.aload_n 2, 1) := by decide +kernel
theorem dL_law_569 : decode cL_law 569 = .ok (.aload_n 0, 1) := by decide +kernel
theorem dL_law_570 : decode cL_law 570 = .ok (.iload_n 3, 1) := by decide +kernel
theorem dL_law_571 : decode cL_law 571 = .ok (.iconst 1, 1) := by decide +kernel
theorem dL_law_572 : decode cL_law 572 = .ok (.iadd, 1) := by decide +kernel
theorem dL_law_573 : decode cL_law 573 = .ok (.iaload, 1) := by decide +kernel
theorem dL_law_574 : decode cL_law 574 = .ok (.aload_n 0, 1) := by decide +kernel
theorem dL_law_575 : decode cL_law 575 = .ok (.iload_n 3, 1) := by decide +kernel
theorem dL_law_576 : decode cL_law 576 = .ok (.iconst 2, 1) := by decide +kernel
theorem dL_law_577 : decode cL_law 577 = .ok (.iadd, 1) := by decide +kernel
theorem dL_law_578 : decode cL_law 578 = .ok (.iaload, 1) := by decide +kernel
theorem dL_law_579 : decode cL_law 579 = .ok (.invokevirtual 67, 3) := by decide +kernel
theorem dL_law_582 : decode cL_law 582 = .ok (.if_icmp .eq 693, 3) := by decide +kernel
theorem dL_law_585 : decode cL_law 585 = .ok (.iconst 0, 1) := by decide +kernel
theorem dL_law_586 : decode cL_law 586 = .ok (.ireturn, 1) := by decide +kernel
theorem dL_law_587 : decode cL_law 587 = .ok (.aload_n 1, 1) := by decide +kernel
theorem dL_law_588 : decode cL_law 588 = .ok (.aload_n 0, 1) := by decide +kernel
theorem dL_law_589 : decode cL_law 589 = .ok (.iload_n 3, 1) := by decide +kernel
theorem dL_law_590 : decode cL_law 590 = .ok (.iconst 1, 1) := by decide +kernel
theorem dL_law_591 : decode cL_law 591 = .ok (.iadd, 1) := by decide +kernel
theorem dL_law_592 : decode cL_law 592 = .ok (.iaload, 1) := by decide +kernel
theorem dL_law_593 : decode cL_law 593 = .ok (.invokevirtual 68, 3) := by decide +kernel
theorem dL_law_596 : decode cL_law 596 = .ok (.aload_n 2, 1) := by decide +kernel
theorem dL_law_597 : decode cL_law 597 = .ok (.aload_n 0, 1) := by decide +kernel
theorem dL_law_598 : decode cL_law 598 = .ok (.iload_n 3, 1) := by decide +kernel
theorem dL_law_599 : decode cL_law 599 = .ok (.iconst 1, 1) := by decide +kernel
theorem dL_law_600 : decode cL_law 600 = .ok (.iadd, 1) := by decide +kernel
theorem dL_law_601 : decode cL_law 601 = .ok (.iaload, 1) := by decide +kernel
theorem dL_law_602 : decode cL_law 602 = .ok (.invokevirtual 71, 3) := by decide +kernel
theorem dL_law_605 : decode cL_law 605 = .ok (.if_icmp .eq 670, 3) := by decide +kernel
theorem dL_law_608 : decode cL_law 608 = .ok (.iconst 0, 1) := by decide +kernel
theorem dL_law_609 : decode cL_law 609 = .ok (.ireturn, 1) := by decide +kernel
theorem dL_law_610 : decode cL_law 610 = .ok (.aload_n 1, 1) := by decide +kernel
theorem dL_law_611 : decode cL_law 611 = .ok (.invokevirtual 72, 3) := by decide +kernel
theorem dL_law_614 : decode cL_law 614 = .ok (.aload_n 2, 1) := by decide +kernel
theorem dL_law_615 : decode cL_law 615 = .ok (.invokevirtual 76, 3) := by decide +kernel
theorem dL_law_618 : decode cL_law 618 = .ok (.if_icmp .eq 657, 3) := by decide +kernel
theorem dL_law_621 : decode cL_law 621 = .ok (.iconst 0, 1) := by decide +kernel
theorem dL_law_622 : decode cL_law 622 = .ok (.ireturn, 1) := by decide +kernel
theorem dL_law_623 : decode cL_law 623 = .ok (.aload_n 1, 1) := by decide +kernel
theorem dL_law_624 : decode cL_law 624 = .ok (.aload_n 0, 1) := by decide +kernel
theorem dL_law_625 : decode cL_law 625 = .ok (.iload_n 3, 1) := by decide +kernel
theorem dL_law_626 : decode cL_law 626 = .ok (.iconst 1, 1) := by decide +kernel
theorem dL_law_627 : decode cL_law 627 = .ok (.iadd, 1) := by decide +kernel
theorem dL_law_628 : decode cL_law 628 = .ok (.iaload, 1) := by decide +kernel
theorem dL_law_629 : decode cL_law 629 = .ok (.aload_n 0, 1) := by decide +kernel
theorem dL_law_630 : decode cL_law 630 = .ok (.iload_n 3, 1) := by decide +kernel
theorem dL_law_631 : decode cL_law 631 = .ok (.iconst 2, 1) := by decide +kernel
theorem dL_law_632 : decode cL_law 632 = .ok (.iadd, 1) := by decide +kernel
theorem dL_law_633 : decode cL_law 633 = .ok (.iaload, 1) := by decide +kernel
theorem dL_law_634 : decode cL_law 634 = .ok (.invokevirtual 77, 3) := by decide +kernel
theorem dL_law_637 : decode cL_law 637 = .ok (.aload_n 2, 1) := by decide +kernel
theorem dL_law_638 : decode cL_law 638 = .ok (.aload_n 0, 1) := by decide +kernel
theorem dL_law_639 : decode cL_law 639 = .ok (.iload_n 3, 1) := by decide +kernel
theorem dL_law_640 : decode cL_law 640 = .ok (.iconst 1, 1) := by decide +kernel
theorem dL_law_641 : decode cL_law 641 = .ok (.iadd, 1) := by decide +kernel
theorem dL_law_642 : decode cL_law 642 = .ok (.iaload, 1) := by decide +kernel
theorem dL_law_643 : decode cL_law 643 = .ok (.aload_n 0, 1) := by decide +kernel
theorem dL_law_644 : decode cL_law 644 = .ok (.iload_n 3, 1) := by decide +kernel
theorem dL_law_645 : decode cL_law 645 = .ok (.iconst 2, 1) := by decide +kernel
theorem dL_law_646 : decode cL_law 646 = .ok (.iadd, 1) := by decide +kernel
theorem dL_law_647 : decode cL_law 647 = .ok (.iaload, 1) := by decide +kernel
theorem dL_law_648 : decode cL_law 648 = .ok (.invokevirtual 80, 3) := by decide +kernel
theorem dL_law_651 : decode cL_law 651 = .ok (.if_icmp .eq 624, 3) := by decide +kernel
theorem dL_law_654 : decode cL_law 654 = .ok (.iconst 0, 1) := by decide +kernel
theorem dL_law_655 : decode cL_law 655 = .ok (.ireturn, 1) := by decide +kernel
theorem dL_law_656 : decode cL_law 656 = .ok (.aload_n 1, 1) := by decide +kernel
theorem dL_law_657 : decode cL_law 657 = .ok (.aload_n 0, 1) := by decide +kernel
theorem dL_law_658 : decode cL_law 658 = .ok (.iload_n 3, 1) := by decide +kernel
theorem dL_law_659 : decode cL_law 659 = .ok (.iconst 1, 1) := by decide +kernel
theorem dL_law_660 : decode cL_law 660 = .ok (.iadd, 1) := by decide +kernel
theorem dL_law_661 : decode cL_law 661 = .ok (.iaload, 1) := by decide +kernel
theorem dL_law_662 : decode cL_law 662 = .ok (.aload_n 0, 1) := by decide +kernel
theorem dL_law_663 : decode cL_law 663 = .ok (.iload_n 3, 1) := by decide +kernel
theorem dL_law_664 : decode cL_law 664 = .ok (.iconst 2, 1) := by decide +kernel
theorem dL_law_665 : decode cL_law 665 = .ok (.iadd, 1) := by decide +kernel
theorem dL_law_666 : decode cL_law 666 = .ok (.iaload, 1) := by decide +kernel
theorem dL_law_667 : decode cL_law 667 = .ok (.invokevirtual 81, 3) := by decide +kernel
theorem dL_law_670 : decode cL_law 670 = .ok (.aload_n 2, 1) := by decide +kernel
theorem dL_law_671 : decode cL_law 671 = .ok (.aload_n 0, 1) := by decide +kernel
theorem dL_law_672 : decode cL_law 672 = .ok (.iload_n 3, 1) := by decide +kernel
theorem dL_law_673 : decode cL_law 673 = .ok (.iconst 1, 1) := by decide +kernel
theorem dL_law_674 : decode cL_law 674 = .ok (.iadd, 1) := by decide +kernel
theorem dL_law_675 : decode cL_law 675 = .ok (.iaload, 1) := by decide +kernel
theorem dL_law_676 : decode cL_law 676 = .ok (.aload_n 0, 1) := by decide +kernel
theorem dL_law_677 : decode cL_law 677 = .ok (.iload_n 3, 1) := by decide +kernel
theorem dL_law_678 : decode cL_law 678 = .ok (.iconst 2, 1) := by decide +kernel
theorem dL_law_679 : decode cL_law 679 = .ok (.iadd, 1) := by decide +kernel
theorem dL_law_680 : decode cL_law 680 = .ok (.iaload, 1) := by decide +kernel
theorem dL_law_681 : decode cL_law 681 = .ok (.invokevirtual 84, 3) := by decide +kernel
theorem dL_law_684 : decode cL_law 684 = .ok (.if_icmp .eq 591, 3) := by decide +kernel
theorem dL_law_687 : decode cL_law 687 = .ok (.iconst 0, 1) := by decide +kernel
theorem dL_law_688 : decode cL_law 688 = .ok (.ireturn, 1) := by decide +kernel
theorem dL_law_689 : decode cL_law 689 = .ok (.aload_n 1, 1) := by decide +kernel
theorem dL_law_690 : decode cL_law 690 = .ok (.aload_n 0, 1) := by decide +kernel
theorem dL_law_691 : decode cL_law 691 = .ok (.iload_n 3, 1) := by decide +kernel
theorem dL_law_692 : decode cL_law 692 = .ok (.iconst 1, 1) := by decide +kernel
theorem dL_law_693 : decode cL_law 693 = .ok (.iadd, 1) := by decide +kernel
theorem dL_law_694 : decode cL_law 694 = .ok (.iaload, 1) := by decide +kernel
theorem dL_law_695 : decode cL_law 695 = .ok (.invokevirtual 85, 3) := by decide +kernel
theorem dL_law_698 : decode cL_law 698 = .ok (.aload_n 2, 1) := by decide +kernel
theorem dL_law_699 : decode cL_law 699 = .ok (.aload_n 0, 1) := by decide +kernel
theorem dL_law_700 : decode cL_law 700 = .ok (.iload_n 3, 1) := by decide +kernel
theorem dL_law_701 : decode cL_law 701 = .ok (.iconst 1, 1) := by decide +kernel
theorem dL_law_702 : decode cL_law 702 = .ok (.iadd, 1) := by decide +kernel
theorem dL_law_703 : decode cL_law 703 = .ok (.iaload, 1) := by decide +kernel
theorem dL_law_704 : decode cL_law 704 = .ok (.invokevirtual 88, 3) := by decide +kernel
theorem dL_law_707 : decode cL_law 707 = .ok (.if_icmp .eq 568, 3) := by decide +kernel
theorem dL_law_710 : decode cL_law 710 = .ok (.iconst 0, 1) := by decide +kernel
theorem dL_law_711 : decode cL_law 711 = .ok (.ireturn, 1) := by decide +kernel
theorem dL_law_712 : decode cL_law 712 = .ok (.aload_n 1, 1) := by decide +kernel
theorem dL_law_713 : decode cL_law 713 = .ok (.aload_n 0, 1) := by decide +kernel
theorem dL_law_714 : decode cL_law 714 = .ok (.iload_n 3, 1) := by decide +kernel
theorem dL_law_715 : decode cL_law 715 = .ok (.iconst 1, 1) := by decide +kernel
theorem dL_law_716 : decode cL_law 716 = .ok (.iadd, 1) := by decide +kernel
theorem dL_law_717 : decode cL_law 717 = .ok (.iaload, 1) := by decide +kernel
theorem dL_law_718 : decode cL_law 718 = .ok (.aload_n 0, 1) := by decide +kernel
theorem dL_law_719 : decode cL_law 719 = .ok (.iload_n 3, 1) := by decide +kernel
theorem dL_law_720 : decode cL_law 720 = .ok (.iconst 2, 1) := by decide +kernel
theorem dL_law_721 : decode cL_law 721 = .ok (.iadd, 1) := by decide +kernel
theorem dL_law_722 : decode cL_law 722 = .ok (.iaload, 1) := by decide +kernel
theorem dL_law_723 : decode cL_law 723 = .ok (.invokevirtual 89, 3) := by decide +kernel
theorem dL_law_726 : decode cL_law 726 = .ok (.aload_n 2, 1) := by decide +kernel
theorem dL_law_727 : decode cL_law 727 = .ok (.aload_n 0, 1) := by decide +kernel
theorem dL_law_728 : decode cL_law 728 = .ok (.iload_n 3, 1) := by decide +kernel
theorem dL_law_729 : decode cL_law 729 = .ok (.iconst 1, 1) := by decide +kernel
theorem dL_law_730 : decode cL_law 730 = .ok (.iadd, 1) := by decide +kernel
theorem dL_law_731 : decode cL_law 731 = .ok (.iaload, 1) := by decide +kernel
theorem dL_law_732 : decode cL_law 732 = .ok (.aload_n 0, 1) := by decide +kernel
theorem dL_law_733 : decode cL_law 733 = .ok (.iload_n 3, 1) := by decide +kernel
theorem dL_law_734 : decode cL_law 734 = .ok (.iconst 2, 1) := by decide +kernel
theorem dL_law_735 : decode cL_law 735 = .ok (.iadd, 1) := by decide +kernel
theorem dL_law_736 : decode cL_law 736 = .ok (.iaload, 1) := by decide +kernel
theorem dL_law_737 : decode cL_law 737 = .ok (.invokevirtual 92, 3) := by decide +kernel
theorem dL_law_740 : decode cL_law 740 = .ok (.if_icmp .eq 535, 3) := by decide +kernel
theorem dL_law_743 : decode cL_law 743 = .ok (.iconst 0, 1) := by decide +kernel
theorem dL_law_744 : decode cL_law 744 = .ok (.ireturn, 1) := by decide +kernel
theorem dL_law_745 : decode cL_law 745 = .ok (.aload_n 1, 1) := by decide +kernel
theorem dL_law_746 : decode cL_law 746 = .ok (.aload_n 0, 1) := by decide +kernel
theorem dL_law_747 : decode cL_law 747 = .ok (.iload_n 3, 1) := by decide +kernel
theorem dL_law_748 : decode cL_law 748 = .ok (.iconst 1, 1) := by decide +kernel
theorem dL_law_749 : decode cL_law 749 = .ok (.iadd, 1) := by decide +kernel
theorem dL_law_750 : decode cL_law 750 = .ok (.iaload, 1) := by decide +kernel
theorem dL_law_751 : decode cL_law 751 = .ok (.aload_n 0, 1) := by decide +kernel
theorem dL_law_752 : decode cL_law 752 = .ok (.iload_n 3, 1) := by decide +kernel
theorem dL_law_753 : decode cL_law 753 = .ok (.iconst 2, 1) := by decide +kernel
theorem dL_law_754 : decode cL_law 754 = .ok (.iadd, 1) := by decide +kernel
theorem dL_law_755 : decode cL_law 755 = .ok (.iaload, 1) := by decide +kernel
theorem dL_law_756 : decode cL_law 756 = .ok (.aload_n 0, 1) := by decide +kernel
theorem dL_law_757 : decode cL_law 757 = .ok (.iload_n 3, 1) := by decide +kernel
theorem dL_law_758 : decode cL_law 758 = .ok (.iconst 3, 1) := by decide +kernel
theorem dL_law_759 : decode cL_law 759 = .ok (.iadd, 1) := by decide +kernel
theorem dL_law_760 : decode cL_law 760 = .ok (.iaload, 1) := by decide +kernel
theorem dL_law_761 : decode cL_law 761 = .ok (.invokevirtual 93, 3) := by decide +kernel
theorem dL_law_764 : decode cL_law 764 = .ok (.aload_n 2, 1) := by decide +kernel
theorem dL_law_765 : decode cL_law 765 = .ok (.aload_n 0, 1) := by decide +kernel
theorem dL_law_766 : decode cL_law 766 = .ok (.iload_n 3, 1) := by decide +kernel
theorem dL_law_767 : decode cL_law 767 = .ok (.iconst 1, 1) := by decide +kernel
theorem dL_law_768 : decode cL_law 768 = .ok (.iadd, 1) := by decide +kernel
theorem dL_law_769 : decode cL_law 769 = .ok (.iaload, 1) := by decide +kernel
theorem dL_law_770 : decode cL_law 770 = .ok (.aload_n 0, 1) := by decide +kernel
theorem dL_law_771 : decode cL_law 771 = .ok (.iload_n 3, 1) := by decide +kernel
theorem dL_law_772 : decode cL_law 772 = .ok (.iconst 2, 1) := by decide +kernel
theorem dL_law_773 : decode cL_law 773 = .ok (.iadd, 1) := by decide +kernel
theorem dL_law_774 : decode cL_law 774 = .ok (.iaload, 1) := by decide +kernel
theorem dL_law_775 : decode cL_law 775 = .ok (.aload_n 0, 1) := by decide +kernel
theorem dL_law_776 : decode cL_law 776 = .ok (.iload_n 3, 1) := by decide +kernel
theorem dL_law_777 : decode cL_law 777 = .ok (.iconst 3, 1) := by decide +kernel
theorem dL_law_778 : decode cL_law 778 = .ok (.iadd, 1) := by decide +kernel
theorem dL_law_779 : decode cL_law 779 = .ok (.iaload, 1) := by decide +kernel
theorem dL_law_780 : decode cL_law 780 = .ok (.invokevirtual 96, 3) := by decide +kernel
theorem dL_law_783 : decode cL_law 783 = .ok (.if_icmp .eq 492, 3) := by decide +kernel
theorem dL_law_786 : decode cL_law 786 = .ok (.iconst 0, 1) := by decide +kernel
theorem dL_law_787 : decode cL_law 787 = .ok (.ireturn, 1) := by decide +kernel
theorem dL_law_788 : decode cL_law 788 = .ok (.aload_n 1, 1) := by decide +kernel
theorem dL_law_789 : decode cL_law 789 = .ok (.invokevirtual 97, 3) := by decide +kernel
theorem dL_law_792 : decode cL_law 792 = .ok (.aload_n 2, 1) := by decide +kernel
theorem dL_law_793 : decode cL_law 793 = .ok (.invokevirtual 100, 3) := by decide +kernel
theorem dL_law_796 : decode cL_law 796 = .ok (.if_icmp .eq 479, 3) := by decide +kernel
theorem dL_law_799 : decode cL_law 799 = .ok (.iconst 0, 1) := by decide +kernel
theorem dL_law_800 : decode cL_law 800 = .ok (.ireturn, 1) := by decide +kernel
theorem dL_law_801 : decode cL_law 801 = .ok (.aload_n 1, 1) := by decide +kernel
theorem dL_law_802 : decode cL_law 802 = .ok (.aload_n 0, 1) := by decide +kernel
theorem dL_law_803 : decode cL_law 803 = .ok (.iload_n 3, 1) := by decide +kernel
theorem dL_law_804 : decode cL_law 804 = .ok (.iconst 1, 1) := by decide +kernel
theorem dL_law_805 : decode cL_law 805 = .ok (.iadd, 1) := by decide +kernel
theorem dL_law_806 : decode cL_law 806 = .ok (.iaload, 1) := by decide +kernel
theorem dL_law_807 : decode cL_law 807 = .ok (.invokevirtual 101, 3) := by decide +kernel
theorem dL_law_810 : decode cL_law 810 = .ok (.aload_n 2, 1) := by decide +kernel
theorem dL_law_811 : decode cL_law 811 = .ok (.aload_n 0, 1) := by decide +kernel
theorem dL_law_812 : decode cL_law 812 = .ok (.iload_n 3, 1) := by decide +kernel
theorem dL_law_813 : decode cL_law 813 = .ok (.iconst 1, 1) := by decide +kernel
theorem dL_law_814 : decode cL_law 814 = .ok (.iadd, 1) := by decide +kernel
theorem dL_law_815 : decode cL_law 815 = .ok (.iaload, 1) := by decide +kernel
theorem dL_law_816 : decode cL_law 816 = .ok (.invokevirtual 104, 3) := by decide +kernel
theorem dL_law_819 : decode cL_law 819 = .ok (.if_icmp .eq 456, 3) := by decide +kernel
theorem dL_law_822 : decode cL_law 822 = .ok (.iconst 0, 1) := by decide +kernel
theorem dL_law_823 : decode cL_law 823 = .ok (.ireturn, 1) := by decide +kernel
theorem dL_law_824 : decode cL_law 824 = .ok (.aload_n 1, 1) := by decide +kernel
theorem dL_law_825 : decode cL_law 825 = .ok (.invokevirtual 105, 3) := by decide +kernel
theorem dL_law_828 : decode cL_law 828 = .ok (.aload_n 2, 1) := by decide +kernel
theorem dL_law_829 : decode cL_law 829 = .ok (.invokevirtual 108, 3) := by decide +kernel
theorem dL_law_832 : decode cL_law 832 = .ok (.if_icmp .eq 443, 3) := by decide +kernel
theorem dL_law_835 : decode cL_law 835 = .ok (.iconst 0, 1) := by decide +kernel
theorem dL_law_836 : decode cL_law 836 = .ok (.ireturn, 1) := by decide +kernel
theorem dL_law_837 : decode cL_law 837 = .ok (.aload_n 1, 1) := by decide +kernel
theorem dL_law_838 : decode cL_law 838 = .ok (.aload_n 0, 1) := by decide +kernel
theorem dL_law_839 : decode cL_law 839 = .ok (.iload_n 3, 1) := by decide +kernel
theorem dL_law_840 : decode cL_law 840 = .ok (.iconst 1, 1) := by decide +kernel
theorem dL_law_841 : decode cL_law 841 = .ok (.iadd, 1) := by decide +kernel
theorem dL_law_842 : decode cL_law 842 = .ok (.iaload, 1) := by decide +kernel
theorem dL_law_843 : decode cL_law 843 = .ok (.aload_n 0, 1) := by decide +kernel
theorem dL_law_844 : decode cL_law 844 = .ok (.iload_n 3, 1) := by decide +kernel
theorem dL_law_845 : decode cL_law 845 = .ok (.iconst 2, 1) := by decide +kernel
theorem dL_law_846 : decode cL_law 846 = .ok (.iadd, 1) := by decide +kernel
theorem dL_law_847 : decode cL_law 847 = .ok (.iaload, 1) := by decide +kernel
theorem dL_law_848 : decode cL_law 848 = .ok (.invokevirtual 109, 3) := by decide +kernel
theorem dL_law_851 : decode cL_law 851 = .ok (.aload_n 2, 1) := by decide +kernel
theorem dL_law_852 : decode cL_law 852 = .ok (.aload_n 0, 1) := by decide +kernel
theorem dL_law_853 : decode cL_law 853 = .ok (.iload_n 3, 1) := by decide +kernel
theorem dL_law_854 : decode cL_law 854 = .ok (.iconst 1, 1) := by decide +kernel
theorem dL_law_855 : decode cL_law 855 = .ok (.iadd, 1) := by decide +kernel
theorem dL_law_856 : decode cL_law 856 = .ok (.iaload, 1) := by decide +kernel
theorem dL_law_857 : decode cL_law 857 = .ok (.aload_n 0, 1) := by decide +kernel
theorem dL_law_858 : decode cL_law 858 = .ok (.iload_n 3, 1) := by decide +kernel
theorem dL_law_859 : decode cL_law 859 = .ok (.iconst 2, 1) := by decide +kernel
theorem dL_law_860 : decode cL_law 860 = .ok (.iadd, 1) := by decide +kernel
theorem dL_law_861 : decode cL_law 861 = .ok (.iaload, 1) := by decide +kernel
theorem dL_law_862 : decode cL_law 862 = .ok (.invokevirtual 112, 3) := by decide +kernel
theorem dL_law_865 : decode cL_law 865 = .ok (.if_icmp .eq 410, 3) := by decide +kernel
theorem dL_law_868 : decode cL_law 868 = .ok (.iconst 0, 1) := by decide +kernel
theorem dL_law_869 : decode cL_law 869 = .ok (.ireturn, 1) := by decide +kernel
theorem dL_law_870 : decode cL_law 870 = .ok (.aload_n 1, 1) := by decide +kernel
theorem dL_law_871 : decode cL_law 871 = .ok (.aload_n 0, 1) := by decide +kernel
theorem dL_law_872 : decode cL_law 872 = .ok (.iload_n 3, 1) := by decide +kernel
theorem dL_law_873 : decode cL_law 873 = .ok (.iconst 1, 1) := by decide +kernel
theorem dL_law_874 : decode cL_law 874 = .ok (.iadd, 1) := by decide +kernel
theorem dL_law_875 : decode cL_law 875 = .ok (.iaload, 1) := by decide +kernel
theorem dL_law_876 : decode cL_law 876 = .ok (.invokevirtual 113, 3) := by decide +kernel
theorem dL_law_879 : decode cL_law 879 = .ok (.aload_n 2, 1) := by decide +kernel
theorem dL_law_880 : decode cL_law 880 = .ok (.aload_n 0, 1) := by decide +kernel
theorem dL_law_881 : decode cL_law 881 = .ok (.iload_n 3, 1) := by decide +kernel
theorem dL_law_882 : decode cL_law 882 = .ok (.iconst 1, 1) := by decide +kernel
theorem dL_law_883 : decode cL_law 883 = .ok (.iadd, 1) := by decide +kernel
theorem dL_law_884 : decode cL_law 884 = .ok (.iaload, 1) := by decide +kernel
theorem dL_law_885 : decode cL_law 885 = .ok (.invokevirtual 116, 3) := by decide +kernel
theorem dL_law_888 : decode cL_law 888 = .ok (.if_icmp .eq 387, 3) := by decide +kernel
theorem dL_law_891 : decode cL_law 891 = .ok (.iconst 0, 1) := by decide +kernel
theorem dL_law_892 : decode cL_law 892 = .ok (.ireturn, 1) := by decide +kernel
theorem dL_law_893 : decode cL_law 893 = .ok (.aload_n 1, 1) := by decide +kernel
theorem dL_law_894 : decode cL_law 894 = .ok (.aload_n 0, 1) := by decide +kernel
theorem dL_law_895 : decode cL_law 895 = .ok (.iload_n 3, 1) := by decide +kernel
theorem dL_law_896 : decode cL_law 896 = .ok (.iconst 1, 1) := by decide +kernel
theorem dL_law_897 : decode cL_law 897 = .ok (.iadd, 1) := by decide +kernel
theorem dL_law_898 : decode cL_law 898 = .ok (.iaload, 1) := by decide +kernel
theorem dL_law_899 : decode cL_law 899 = .ok (.aload_n 0, 1) := by decide +kernel
theorem dL_law_900 : decode cL_law 900 = .ok (.iload_n 3, 1) := by decide +kernel
theorem dL_law_901 : decode cL_law 901 = .ok (.iconst 2, 1) := by decide +kernel
theorem dL_law_902 : decode cL_law 902 = .ok (.iadd, 1) := by decide +kernel
theorem dL_law_903 : decode cL_law 903 = .ok (.iaload, 1) := by decide +kernel
theorem dL_law_904 : decode cL_law 904 = .ok (.aload_n 0, 1) := by decide +kernel
theorem dL_law_905 : decode cL_law 905 = .ok (.iload_n 3, 1) := by decide +kernel
theorem dL_law_906 : decode cL_law 906 = .ok (.iconst 3, 1) := by decide +kernel
theorem dL_law_907 : decode cL_law 907 = .ok (.iadd, 1) := by decide +kernel
theorem dL_law_908 : decode cL_law 908 = .ok (.iaload, 1) := by decide +kernel
theorem dL_law_909 : decode cL_law 909 = .ok (.aload_n 0, 1) := by decide +kernel
theorem dL_law_910 : decode cL_law 910 = .ok (.iload_n 3, 1) := by decide +kernel
theorem dL_law_911 : decode cL_law 911 = .ok (.iconst 4, 1) := by decide +kernel
theorem dL_law_912 : decode cL_law 912 = .ok (.iadd, 1) := by decide +kernel
theorem dL_law_913 : decode cL_law 913 = .ok (.iaload, 1) := by decide +kernel
theorem dL_law_914 : decode cL_law 914 = .ok (.invokevirtual 117, 3) := by decide +kernel
theorem dL_law_917 : decode cL_law 917 = .ok (.aload_n 2, 1) := by decide +kernel
theorem dL_law_918 : decode cL_law 918 = .ok (.aload_n 0, 1) := by decide +kernel
theorem dL_law_919 : decode cL_law 919 = .ok (.iload_n 3, 1) := by decide +kernel
theorem dL_law_920 : decode cL_law 920 = .ok (.iconst 1, 1) := by decide +kernel
theorem dL_law_921 : decode cL_law 921 = .ok (.iadd, 1) := by decide +kernel
theorem dL_law_922 : decode cL_law 922 = .ok (.iaload, 1) := by decide +kernel
theorem dL_law_923 : decode cL_law 923 = .ok (.aload_n 0, 1) := by decide +kernel
theorem dL_law_924 : decode cL_law 924 = .ok (.iload_n 3, 1) := by decide +kernel
theorem dL_law_925 : decode cL_law 925 = .ok (.iconst 2, 1) := by decide +kernel
theorem dL_law_926 : decode cL_law 926 = .ok (.iadd, 1) := by decide +kernel
theorem dL_law_927 : decode cL_law 927 = .ok (.iaload, 1) := by decide +kernel
theorem dL_law_928 : decode cL_law 928 = .ok (.aload_n 0, 1) := by decide +kernel
theorem dL_law_929 : decode cL_law 929 = .ok (.iload_n 3, 1) := by decide +kernel
theorem dL_law_930 : decode cL_law 930 = .ok (.iconst 3, 1) := by decide +kernel
theorem dL_law_931 : decode cL_law 931 = .ok (.iadd, 1) := by decide +kernel
theorem dL_law_932 : decode cL_law 932 = .ok (.iaload, 1) := by decide +kernel
theorem dL_law_933 : decode cL_law 933 = .ok (.aload_n 0, 1) := by decide +kernel
theorem dL_law_934 : decode cL_law 934 = .ok (.iload_n 3, 1) := by decide +kernel
theorem dL_law_935 : decode cL_law 935 = .ok (.iconst 4, 1) := by decide +kernel
theorem dL_law_936 : decode cL_law 936 = .ok (.iadd, 1) := by decide +kernel
theorem dL_law_937 : decode cL_law 937 = .ok (.iaload, 1) := by decide +kernel
theorem dL_law_938 : decode cL_law 938 = .ok (.invokevirtual 121, 3) := by decide +kernel
theorem dL_law_941 : decode cL_law 941 = .ok (.lcmp, 1) := by decide +kernel
theorem dL_law_942 : decode cL_law 942 = .ok (.ifCond .eq 333, 3) := by decide +kernel
theorem dL_law_945 : decode cL_law 945 = .ok (.iconst 0, 1) := by decide +kernel
theorem dL_law_946 : decode cL_law 946 = .ok (.ireturn, 1) := by decide +kernel
theorem dL_law_947 : decode cL_law 947 = .ok (.aload_n 1, 1) := by decide +kernel
theorem dL_law_948 : decode cL_law 948 = .ok (.aload_n 0, 1) := by decide +kernel
theorem dL_law_949 : decode cL_law 949 = .ok (.iload_n 3, 1) := by decide +kernel
theorem dL_law_950 : decode cL_law 950 = .ok (.iconst 1, 1) := by decide +kernel
theorem dL_law_951 : decode cL_law 951 = .ok (.iadd, 1) := by decide +kernel
theorem dL_law_952 : decode cL_law 952 = .ok (.iaload, 1) := by decide +kernel
theorem dL_law_953 : decode cL_law 953 = .ok (.aload_n 0, 1) := by decide +kernel
theorem dL_law_954 : decode cL_law 954 = .ok (.iload_n 3, 1) := by decide +kernel
theorem dL_law_955 : decode cL_law 955 = .ok (.iconst 2, 1) := by decide +kernel
theorem dL_law_956 : decode cL_law 956 = .ok (.iadd, 1) := by decide +kernel
theorem dL_law_957 : decode cL_law 957 = .ok (.iaload, 1) := by decide +kernel
theorem dL_law_958 : decode cL_law 958 = .ok (.invokevirtual 122, 3) := by decide +kernel
theorem dL_law_961 : decode cL_law 961 = .ok (.aload_n 2, 1) := by decide +kernel
theorem dL_law_962 : decode cL_law 962 = .ok (.aload_n 0, 1) := by decide +kernel
theorem dL_law_963 : decode cL_law 963 = .ok (.iload_n 3, 1) := by decide +kernel
theorem dL_law_964 : decode cL_law 964 = .ok (.iconst 1, 1) := by decide +kernel
theorem dL_law_965 : decode cL_law 965 = .ok (.iadd, 1) := by decide +kernel
theorem dL_law_966 : decode cL_law 966 = .ok (.iaload, 1) := by decide +kernel
theorem dL_law_967 : decode cL_law 967 = .ok (.aload_n 0, 1) := by decide +kernel
theorem dL_law_968 : decode cL_law 968 = .ok (.iload_n 3, 1) := by decide +kernel
theorem dL_law_969 : decode cL_law 969 = .ok (.iconst 2, 1) := by decide +kernel
theorem dL_law_970 : decode cL_law 970 = .ok (.iadd, 1) := by decide +kernel
theorem dL_law_971 : decode cL_law 971 = .ok (.iaload, 1) := by decide +kernel
theorem dL_law_972 : decode cL_law 972 = .ok (.invokevirtual 125, 3) := by decide +kernel
theorem dL_law_975 : decode cL_law 975 = .ok (.if_icmp .eq 300, 3) := by decide +kernel
theorem dL_law_978 : decode cL_law 978 = .ok (.iconst 0, 1) := by decide +kernel
theorem dL_law_979 : decode cL_law 979 = .ok (.ireturn, 1) := by decide +kernel
theorem dL_law_980 : decode cL_law 980 = .ok (.aload_n 1, 1) := by decide +kernel
theorem dL_law_981 : decode cL_law 981 = .ok (.aload_n 0, 1) := by decide +kernel
theorem dL_law_982 : decode cL_law 982 = .ok (.iload_n 3, 1) := by decide +kernel
theorem dL_law_983 : decode cL_law 983 = .ok (.iconst 1, 1) := by decide +kernel
theorem dL_law_984 : decode cL_law 984 = .ok (.iadd, 1) := by decide +kernel
theorem dL_law_985 : decode cL_law 985 = .ok (.iaload, 1) := by decide +kernel
theorem dL_law_986 : decode cL_law 986 = .ok (.aload_n 0, 1) := by decide +kernel
theorem dL_law_987 : decode cL_law 987 = .ok (.iload_n 3, 1) := by decide +kernel
theorem dL_law_988 : decode cL_law 988 = .ok (.iconst 2, 1) := by decide +kernel
theorem dL_law_989 : decode cL_law 989 = .ok (.iadd, 1) := by decide +kernel
theorem dL_law_990 : decode cL_law 990 = .ok (.iaload, 1) := by decide +kernel
theorem dL_law_991 : decode cL_law 991 = .ok (.aload_n 0, 1) := by decide +kernel
theorem dL_law_992 : decode cL_law 992 = .ok (.iload_n 3, 1) := by decide +kernel
theorem dL_law_993 : decode cL_law 993 = .ok (.iconst 3, 1) := by decide +kernel
theorem dL_law_994 : decode cL_law 994 = .ok (.iadd, 1) := by decide +kernel
theorem dL_law_995 : decode cL_law 995 = .ok (.iaload, 1) := by decide +kernel
theorem dL_law_996 : decode cL_law 996 = .ok (.invokevirtual 126, 3) := by decide +kernel
theorem dL_law_999 : decode cL_law 999 = .ok (.aload_n 2, 1) := by decide +kernel
theorem dL_law_1000 : decode cL_law 1000 = .ok (.aload_n 0, 1) := by decide +kernel
theorem dL_law_1001 : decode cL_law 1001 = .ok (.iload_n 3, 1) := by decide +kernel
theorem dL_law_1002 : decode cL_law 1002 = .ok (.iconst 1, 1) := by decide +kernel
theorem dL_law_1003 : decode cL_law 1003 = .ok (.iadd, 1) := by decide +kernel
theorem dL_law_1004 : decode cL_law 1004 = .ok (.iaload, 1) := by decide +kernel
theorem dL_law_1005 : decode cL_law 1005 = .ok (.aload_n 0, 1) := by decide +kernel
theorem dL_law_1006 : decode cL_law 1006 = .ok (.iload_n 3, 1) := by decide +kernel
theorem dL_law_1007 : decode cL_law 1007 = .ok (.iconst 2, 1) := by decide +kernel
theorem dL_law_1008 : decode cL_law 1008 = .ok (.iadd, 1) := by decide +kernel
theorem dL_law_1009 : decode cL_law 1009 = .ok (.iaload, 1) := by decide +kernel
theorem dL_law_1010 : decode cL_law 1010 = .ok (.aload_n 0, 1) := by decide +kernel
theorem dL_law_1011 : decode cL_law 1011 = .ok (.iload_n 3, 1) := by decide +kernel
theorem dL_law_1012 : decode cL_law 1012 = .ok (.iconst 3, 1) := by decide +kernel
theorem dL_law_1013 : decode cL_law 1013 = .ok (.iadd, 1) := by decide +kernel
theorem dL_law_1014 : decode cL_law 1014 = .ok (.iaload, 1) := by decide +kernel
theorem dL_law_1015 : decode cL_law 1015 = .ok (.invokevirtual 129, 3) := by decide +kernel
theorem dL_law_1018 : decode cL_law 1018 = .ok (.if_icmp .eq 257, 3) := by decide +kernel
theorem dL_law_1021 : decode cL_law 1021 = .ok (.iconst 0, 1) := by decide +kernel
theorem dL_law_1022 : decode cL_law 1022 = .ok (.ireturn, 1) := by decide +kernel
theorem dL_law_1023 : decode cL_law 1023 = .ok (.aload_n 1, 1) := by decide +kernel
theorem dL_law_1024 : decode cL_law 1024 = .ok (.aload_n 0, 1) := by decide +kernel
theorem dL_law_1025 : decode cL_law 1025 = .ok (.iload_n 3, 1) := by decide +kernel
theorem dL_law_1026 : decode cL_law 1026 = .ok (.iconst 1, 1) := by decide +kernel
theorem dL_law_1027 : decode cL_law 1027 = .ok (.iadd, 1) := by decide +kernel
theorem dL_law_1028 : decode cL_law 1028 = .ok (.iaload, 1) := by decide +kernel
theorem dL_law_1029 : decode cL_law 1029 = .ok (.invokevirtual 130, 3) := by decide +kernel
theorem dL_law_1032 : decode cL_law 1032 = .ok (.aload_n 2, 1) := by decide +kernel
theorem dL_law_1033 : decode cL_law 1033 = .ok (.aload_n 0, 1) := by decide +kernel
theorem dL_law_1034 : decode cL_law 1034 = .ok (.iload_n 3, 1) := by decide +kernel
theorem dL_law_1035 : decode cL_law 1035 = .ok (.iconst 1, 1) := by decide +kernel
theorem dL_law_1036 : decode cL_law 1036 = .ok (.iadd, 1) := by decide +kernel
theorem dL_law_1037 : decode cL_law 1037 = .ok (.iaload, 1) := by decide +kernel
theorem dL_law_1038 : decode cL_law 1038 = .ok (.invokevirtual 133, 3) := by decide +kernel
theorem dL_law_1041 : decode cL_law 1041 = .ok (.if_icmp .eq 234, 3) := by decide +kernel
theorem dL_law_1044 : decode cL_law 1044 = .ok (.iconst 0, 1) := by decide +kernel
theorem dL_law_1045 : decode cL_law 1045 = .ok (.ireturn, 1) := by decide +kernel
theorem dL_law_1046 : decode cL_law 1046 = .ok (.aload_n 1, 1) := by decide +kernel
theorem dL_law_1047 : decode cL_law 1047 = .ok (.aload_n 0, 1) := by decide +kernel
theorem dL_law_1048 : decode cL_law 1048 = .ok (.iload_n 3, 1) := by decide +kernel
theorem dL_law_1049 : decode cL_law 1049 = .ok (.iconst 1, 1) := by decide +kernel
theorem dL_law_1050 : decode cL_law 1050 = .ok (.iadd, 1) := by decide +kernel
theorem dL_law_1051 : decode cL_law 1051 = .ok (.iaload, 1) := by decide +kernel
theorem dL_law_1052 : decode cL_law 1052 = .ok (.aload_n 0, 1) := by decide +kernel
theorem dL_law_1053 : decode cL_law 1053 = .ok (.iload_n 3, 1) := by decide +kernel
theorem dL_law_1054 : decode cL_law 1054 = .ok (.iconst 2, 1) := by decide +kernel
theorem dL_law_1055 : decode cL_law 1055 = .ok (.iadd, 1) := by decide +kernel
theorem dL_law_1056 : decode cL_law 1056 = .ok (.iaload, 1) := by decide +kernel
theorem dL_law_1057 : decode cL_law 1057 = .ok (.aload_n 0, 1) := by decide +kernel
theorem dL_law_1058 : decode cL_law 1058 = .ok (.iload_n 3, 1) := by decide +kernel
theorem dL_law_1059 : decode cL_law 1059 = .ok (.iconst 3, 1) := by decide +kernel
theorem dL_law_1060 : decode cL_law 1060 = .ok (.iadd, 1) := by decide +kernel
theorem dL_law_1061 : decode cL_law 1061 = .ok (.iaload, 1) := by decide +kernel
theorem dL_law_1062 : decode cL_law 1062 = .ok (.aload_n 0, 1) := by decide +kernel
theorem dL_law_1063 : decode cL_law 1063 = .ok (.iload_n 3, 1) := by decide +kernel
theorem dL_law_1064 : decode cL_law 1064 = .ok (.iconst 4, 1) := by decide +kernel
theorem dL_law_1065 : decode cL_law 1065 = .ok (.iadd, 1) := by decide +kernel
theorem dL_law_1066 : decode cL_law 1066 = .ok (.iaload, 1) := by decide +kernel
theorem dL_law_1067 : decode cL_law 1067 = .ok (.invokevirtual 134, 3) := by decide +kernel
theorem dL_law_1070 : decode cL_law 1070 = .ok (.aload_n 2, 1) := by decide +kernel
theorem dL_law_1071 : decode cL_law 1071 = .ok (.aload_n 0, 1) := by decide +kernel
theorem dL_law_1072 : decode cL_law 1072 = .ok (.iload_n 3, 1) := by decide +kernel
theorem dL_law_1073 : decode cL_law 1073 = .ok (.iconst 1, 1) := by decide +kernel
theorem dL_law_1074 : decode cL_law 1074 = .ok (.iadd, 1) := by decide +kernel
theorem dL_law_1075 : decode cL_law 1075 = .ok (.iaload, 1) := by decide +kernel
theorem dL_law_1076 : decode cL_law 1076 = .ok (.aload_n 0, 1) := by decide +kernel
theorem dL_law_1077 : decode cL_law 1077 = .ok (.iload_n 3, 1) := by decide +kernel
theorem dL_law_1078 : decode cL_law 1078 = .ok (.iconst 2, 1) := by decide +kernel
theorem dL_law_1079 : decode cL_law 1079 = .ok (.iadd, 1) := by decide +kernel
theorem dL_law_1080 : decode cL_law 1080 = .ok (.iaload, 1) := by decide +kernel
theorem dL_law_1081 : decode cL_law 1081 = .ok (.aload_n 0, 1) := by decide +kernel
theorem dL_law_1082 : decode cL_law 1082 = .ok (.iload_n 3, 1) := by decide +kernel
theorem dL_law_1083 : decode cL_law 1083 = .ok (.iconst 3, 1) := by decide +kernel
theorem dL_law_1084 : decode cL_law 1084 = .ok (.iadd, 1) := by decide +kernel
theorem dL_law_1085 : decode cL_law 1085 = .ok (.iaload, 1) := by decide +kernel
theorem dL_law_1086 : decode cL_law 1086 = .ok (.aload_n 0, 1) := by decide +kernel
theorem dL_law_1087 : decode cL_law 1087 = .ok (.iload_n 3, 1) := by decide +kernel
theorem dL_law_1088 : decode cL_law 1088 = .ok (.iconst 4, 1) := by decide +kernel
theorem dL_law_1089 : decode cL_law 1089 = .ok (.iadd, 1) := by decide +kernel
theorem dL_law_1090 : decode cL_law 1090 = .ok (.iaload, 1) := by decide +kernel
theorem dL_law_1091 : decode cL_law 1091 = .ok (.invokevirtual 138, 3) := by decide +kernel
theorem dL_law_1094 : decode cL_law 1094 = .ok (.if_icmp .eq 181, 3) := by decide +kernel
theorem dL_law_1097 : decode cL_law 1097 = .ok (.iconst 0, 1) := by decide +kernel
theorem dL_law_1098 : decode cL_law 1098 = .ok (.ireturn, 1) := by decide +kernel
theorem dL_law_1099 : decode cL_law 1099 = .ok (.aload_n 1, 1) := by decide +kernel
theorem dL_law_1100 : decode cL_law 1100 = .ok (.aload_n 0, 1) := by decide +kernel
theorem dL_law_1101 : decode cL_law 1101 = .ok (.iload_n 3, 1) := by decide +kernel
theorem dL_law_1102 : decode cL_law 1102 = .ok (.iconst 1, 1) := by decide +kernel
theorem dL_law_1103 : decode cL_law 1103 = .ok (.iadd, 1) := by decide +kernel
theorem dL_law_1104 : decode cL_law 1104 = .ok (.iaload, 1) := by decide +kernel
theorem dL_law_1105 : decode cL_law 1105 = .ok (.aload_n 0, 1) := by decide +kernel
theorem dL_law_1106 : decode cL_law 1106 = .ok (.iload_n 3, 1) := by decide +kernel
theorem dL_law_1107 : decode cL_law 1107 = .ok (.iconst 2, 1) := by decide +kernel
theorem dL_law_1108 : decode cL_law 1108 = .ok (.iadd, 1) := by decide +kernel
theorem dL_law_1109 : decode cL_law 1109 = .ok (.iaload, 1) := by decide +kernel
theorem dL_law_1110 : decode cL_law 1110 = .ok (.aload_n 0, 1) := by decide +kernel
theorem dL_law_1111 : decode cL_law 1111 = .ok (.iload_n 3, 1) := by decide +kernel
theorem dL_law_1112 : decode cL_law 1112 = .ok (.iconst 3, 1) := by decide +kernel
theorem dL_law_1113 : decode cL_law 1113 = .ok (.iadd, 1) := by decide +kernel
theorem dL_law_1114 : decode cL_law 1114 = .ok (.iaload, 1) := by decide +kernel
theorem dL_law_1115 : decode cL_law 1115 = .ok (.invokevirtual 139, 3) := by decide +kernel
theorem dL_law_1118 : decode cL_law 1118 = .ok (.aload_n 2, 1) := by decide +kernel
theorem dL_law_1119 : decode cL_law 1119 = .ok (.aload_n 0, 1) := by decide +kernel
theorem dL_law_1120 : decode cL_law 1120 = .ok (.iload_n 3, 1) := by decide +kernel
theorem dL_law_1121 : decode cL_law 1121 = .ok (.iconst 1, 1) := by decide +kernel
theorem dL_law_1122 : decode cL_law 1122 = .ok (.iadd, 1) := by decide +kernel
theorem dL_law_1123 : decode cL_law 1123 = .ok (.iaload, 1) := by decide +kernel
theorem dL_law_1124 : decode cL_law 1124 = .ok (.aload_n 0, 1) := by decide +kernel
theorem dL_law_1125 : decode cL_law 1125 = .ok (.iload_n 3, 1) := by decide +kernel
theorem dL_law_1126 : decode cL_law 1126 = .ok (.iconst 2, 1) := by decide +kernel
theorem dL_law_1127 : decode cL_law 1127 = .ok (.iadd, 1) := by decide +kernel
theorem dL_law_1128 : decode cL_law 1128 = .ok (.iaload, 1) := by decide +kernel
theorem dL_law_1129 : decode cL_law 1129 = .ok (.aload_n 0, 1) := by decide +kernel
theorem dL_law_1130 : decode cL_law 1130 = .ok (.iload_n 3, 1) := by decide +kernel
theorem dL_law_1131 : decode cL_law 1131 = .ok (.iconst 3, 1) := by decide +kernel
theorem dL_law_1132 : decode cL_law 1132 = .ok (.iadd, 1) := by decide +kernel
theorem dL_law_1133 : decode cL_law 1133 = .ok (.iaload, 1) := by decide +kernel
theorem dL_law_1134 : decode cL_law 1134 = .ok (.invokevirtual 142, 3) := by decide +kernel
theorem dL_law_1137 : decode cL_law 1137 = .ok (.if_icmp .eq 138, 3) := by decide +kernel
theorem dL_law_1140 : decode cL_law 1140 = .ok (.iconst 0, 1) := by decide +kernel
theorem dL_law_1141 : decode cL_law 1141 = .ok (.ireturn, 1) := by decide +kernel
theorem dL_law_1142 : decode cL_law 1142 = .ok (.aload_n 1, 1) := by decide +kernel
theorem dL_law_1143 : decode cL_law 1143 = .ok (.aload_n 0, 1) := by decide +kernel
theorem dL_law_1144 : decode cL_law 1144 = .ok (.iload_n 3, 1) := by decide +kernel
theorem dL_law_1145 : decode cL_law 1145 = .ok (.iconst 1, 1) := by decide +kernel
theorem dL_law_1146 : decode cL_law 1146 = .ok (.iadd, 1) := by decide +kernel
theorem dL_law_1147 : decode cL_law 1147 = .ok (.iaload, 1) := by decide +kernel
theorem dL_law_1148 : decode cL_law 1148 = .ok (.aload_n 0, 1) := by decide +kernel
theorem dL_law_1149 : decode cL_law 1149 = .ok (.iload_n 3, 1) := by decide +kernel
theorem dL_law_1150 : decode cL_law 1150 = .ok (.iconst 2, 1) := by decide +kernel
theorem dL_law_1151 : decode cL_law 1151 = .ok (.iadd, 1) := by decide +kernel
theorem dL_law_1152 : decode cL_law 1152 = .ok (.iaload, 1) := by decide +kernel
theorem dL_law_1153 : decode cL_law 1153 = .ok (.aload_n 0, 1) := by decide +kernel
theorem dL_law_1154 : decode cL_law 1154 = .ok (.iload_n 3, 1) := by decide +kernel
theorem dL_law_1155 : decode cL_law 1155 = .ok (.iconst 3, 1) := by decide +kernel
theorem dL_law_1156 : decode cL_law 1156 = .ok (.iadd, 1) := by decide +kernel
theorem dL_law_1157 : decode cL_law 1157 = .ok (.iaload, 1) := by decide +kernel
theorem dL_law_1158 : decode cL_law 1158 = .ok (.aload_n 0, 1) := by decide +kernel
theorem dL_law_1159 : decode cL_law 1159 = .ok (.iload_n 3, 1) := by decide +kernel
theorem dL_law_1160 : decode cL_law 1160 = .ok (.iconst 4, 1) := by decide +kernel
theorem dL_law_1161 : decode cL_law 1161 = .ok (.iadd, 1) := by decide +kernel
theorem dL_law_1162 : decode cL_law 1162 = .ok (.iaload, 1) := by decide +kernel
theorem dL_law_1163 : decode cL_law 1163 = .ok (.aload_n 0, 1) := by decide +kernel
theorem dL_law_1164 : decode cL_law 1164 = .ok (.iload_n 3, 1) := by decide +kernel
theorem dL_law_1165 : decode cL_law 1165 = .ok (.iconst 5, 1) := by decide +kernel
theorem dL_law_1166 : decode cL_law 1166 = .ok (.iadd, 1) := by decide +kernel
theorem dL_law_1167 : decode cL_law 1167 = .ok (.iaload, 1) := by decide +kernel
theorem dL_law_1168 : decode cL_law 1168 = .ok (.invokevirtual 143, 3) := by decide +kernel
theorem dL_law_1171 : decode cL_law 1171 = .ok (.aload_n 2, 1) := by decide +kernel
theorem dL_law_1172 : decode cL_law 1172 = .ok (.aload_n 0, 1) := by decide +kernel
theorem dL_law_1173 : decode cL_law 1173 = .ok (.iload_n 3, 1) := by decide +kernel
theorem dL_law_1174 : decode cL_law 1174 = .ok (.iconst 1, 1) := by decide +kernel
theorem dL_law_1175 : decode cL_law 1175 = .ok (.iadd, 1) := by decide +kernel
theorem dL_law_1176 : decode cL_law 1176 = .ok (.iaload, 1) := by decide +kernel
theorem dL_law_1177 : decode cL_law 1177 = .ok (.aload_n 0, 1) := by decide +kernel
theorem dL_law_1178 : decode cL_law 1178 = .ok (.iload_n 3, 1) := by decide +kernel
theorem dL_law_1179 : decode cL_law 1179 = .ok (.iconst 2, 1) := by decide +kernel
theorem dL_law_1180 : decode cL_law 1180 = .ok (.iadd, 1) := by decide +kernel
theorem dL_law_1181 : decode cL_law 1181 = .ok (.iaload, 1) := by decide +kernel
theorem dL_law_1182 : decode cL_law 1182 = .ok (.aload_n 0, 1) := by decide +kernel
theorem dL_law_1183 : decode cL_law 1183 = .ok (.iload_n 3, 1) := by decide +kernel
theorem dL_law_1184 : decode cL_law 1184 = .ok (.iconst 3, 1) := by decide +kernel
theorem dL_law_1185 : decode cL_law 1185 = .ok (.iadd, 1) := by decide +kernel
theorem dL_law_1186 : decode cL_law 1186 = .ok (.iaload, 1) := by decide +kernel
theorem dL_law_1187 : decode cL_law 1187 = .ok (.aload_n 0, 1) := by decide +kernel
theorem dL_law_1188 : decode cL_law 1188 = .ok (.iload_n 3, 1) := by decide +kernel
theorem dL_law_1189 : decode cL_law 1189 = .ok (.iconst 4, 1) := by decide +kernel
theorem dL_law_1190 : decode cL_law 1190 = .ok (.iadd, 1) := by decide +kernel
theorem dL_law_1191 : decode cL_law 1191 = .ok (.iaload, 1) := by decide +kernel
theorem dL_law_1192 : decode cL_law 1192 = .ok (.aload_n 0, 1) := by decide +kernel
theorem dL_law_1193 : decode cL_law 1193 = .ok (.iload_n 3, 1) := by decide +kernel
theorem dL_law_1194 : decode cL_law 1194 = .ok (.iconst 5, 1) := by decide +kernel
theorem dL_law_1195 : decode cL_law 1195 = .ok (.iadd, 1) := by decide +kernel
theorem dL_law_1196 : decode cL_law 1196 = .ok (.iaload, 1) := by decide +kernel
theorem dL_law_1197 : decode cL_law 1197 = .ok (.invokevirtual 147, 3) := by decide +kernel
theorem dL_law_1200 : decode cL_law 1200 = .ok (.if_icmp .eq 75, 3) := by decide +kernel
theorem dL_law_1203 : decode cL_law 1203 = .ok (.iconst 0, 1) := by decide +kernel
theorem dL_law_1204 : decode cL_law 1204 = .ok (.ireturn, 1) := by decide +kernel
theorem dL_law_1205 : decode cL_law 1205 = .ok (.aload_n 1, 1) := by decide +kernel
theorem dL_law_1206 : decode cL_law 1206 = .ok (.aload_n 0, 1) := by decide +kernel
theorem dL_law_1207 : decode cL_law 1207 = .ok (.iload_n 3, 1) := by decide +kernel
theorem dL_law_1208 : decode cL_law 1208 = .ok (.iconst 1, 1) := by decide +kernel
theorem dL_law_1209 : decode cL_law 1209 = .ok (.iadd, 1) := by decide +kernel
theorem dL_law_1210 : decode cL_law 1210 = .ok (.iaload, 1) := by decide +kernel
theorem dL_law_1211 : decode cL_law 1211 = .ok (.aload_n 0, 1) := by decide +kernel
theorem dL_law_1212 : decode cL_law 1212 = .ok (.iload_n 3, 1) := by decide +kernel
theorem dL_law_1213 : decode cL_law 1213 = .ok (.iconst 2, 1) := by decide +kernel
theorem dL_law_1214 : decode cL_law 1214 = .ok (.iadd, 1) := by decide +kernel
theorem dL_law_1215 : decode cL_law 1215 = .ok (.iaload, 1) := by decide +kernel
theorem dL_law_1216 : decode cL_law 1216 = .ok (.invokevirtual 148, 3) := by decide +kernel
theorem dL_law_1219 : decode cL_law 1219 = .ok (.aload_n 2, 1) := by decide +kernel
theorem dL_law_1220 : decode cL_law 1220 = .ok (.aload_n 0, 1) := by decide +kernel
theorem dL_law_1221 : decode cL_law 1221 = .ok (.iload_n 3, 1) := by decide +kernel
theorem dL_law_1222 : decode cL_law 1222 = .ok (.iconst 1, 1) := by decide +kernel
theorem dL_law_1223 : decode cL_law 1223 = .ok (.iadd, 1) := by decide +kernel
theorem dL_law_1224 : decode cL_law 1224 = .ok (.iaload, 1) := by decide +kernel
theorem dL_law_1225 : decode cL_law 1225 = .ok (.aload_n 0, 1) := by decide +kernel
theorem dL_law_1226 : decode cL_law 1226 = .ok (.iload_n 3, 1) := by decide +kernel
theorem dL_law_1227 : decode cL_law 1227 = .ok (.iconst 2, 1) := by decide +kernel
theorem dL_law_1228 : decode cL_law 1228 = .ok (.iadd, 1) := by decide +kernel
theorem dL_law_1229 : decode cL_law 1229 = .ok (.iaload, 1) := by decide +kernel
theorem dL_law_1230 : decode cL_law 1230 = .ok (.invokevirtual 151, 3) := by decide +kernel
theorem dL_law_1233 : decode cL_law 1233 = .ok (.if_icmp .eq 42, 3) := by decide +kernel
theorem dL_law_1236 : decode cL_law 1236 = .ok (.iconst 0, 1) := by decide +kernel
theorem dL_law_1237 : decode cL_law 1237 = .ok (.ireturn, 1) := by decide +kernel
theorem dL_law_1238 : decode cL_law 1238 = .ok (.aload_n 1, 1) := by decide +kernel
theorem dL_law_1239 : decode cL_law 1239 = .ok (.aload_n 0, 1) := by decide +kernel
theorem dL_law_1240 : decode cL_law 1240 = .ok (.iload_n 3, 1) := by decide +kernel
theorem dL_law_1241 : decode cL_law 1241 = .ok (.iconst 1, 1) := by decide +kernel
theorem dL_law_1242 : decode cL_law 1242 = .ok (.iadd, 1) := by decide +kernel
theorem dL_law_1243 : decode cL_law 1243 = .ok (.iaload, 1) := by decide +kernel
theorem dL_law_1244 : decode cL_law 1244 = .ok (.invokevirtual 152, 3) := by decide +kernel
theorem dL_law_1247 : decode cL_law 1247 = .ok (.aload_n 2, 1) := by decide +kernel
theorem dL_law_1248 : decode cL_law 1248 = .ok (.aload_n 0, 1) := by decide +kernel
theorem dL_law_1249 : decode cL_law 1249 = .ok (.iload_n 3, 1) := by decide +kernel
theorem dL_law_1250 : decode cL_law 1250 = .ok (.iconst 1, 1) := by decide +kernel
theorem dL_law_1251 : decode cL_law 1251 = .ok (.iadd, 1) := by decide +kernel
theorem dL_law_1252 : decode cL_law 1252 = .ok (.iaload, 1) := by decide +kernel
theorem dL_law_1253 : decode cL_law 1253 = .ok (.invokevirtual 155, 3) := by decide +kernel
theorem dL_law_1256 : decode cL_law 1256 = .ok (.if_icmp .eq 19, 3) := by decide +kernel
theorem dL_law_1259 : decode cL_law 1259 = .ok (.iconst 0, 1) := by decide +kernel
theorem dL_law_1260 : decode cL_law 1260 = .ok (.ireturn, 1) := by decide +kernel
theorem dL_law_1261 : decode cL_law 1261 = .ok (.aload_n 1, 1) := by decide +kernel
theorem dL_law_1262 : decode cL_law 1262 = .ok (.invokevirtual 156, 3) := by decide +kernel
theorem dL_law_1265 : decode cL_law 1265 = .ok (.aload_n 2, 1) := by decide +kernel
theorem dL_law_1266 : decode cL_law 1266 = .ok (.invokevirtual 160, 3) := by decide +kernel
theorem dL_law_1269 : decode cL_law 1269 = .ok (.lcmp, 1) := by decide +kernel
theorem dL_law_1270 : decode cL_law 1270 = .ok (.ifCond .eq 5, 3) := by decide +kernel
theorem dL_law_1273 : decode cL_law 1273 = .ok (.iconst 0, 1) := by decide +kernel
theorem dL_law_1274 : decode cL_law 1274 = .ok (.ireturn, 1) := by decide +kernel
theorem dL_law_1275 : decode cL_law 1275 = .ok (.iinc 3 6, 3) := by decide +kernel
theorem dL_law_1278 : decode cL_law 1278 = .ok (.goto (-1260), 3) := by decide +kernel
theorem dL_law_1281 : decode cL_law 1281 = .ok (.iconst 1, 1) := by decide +kernel
theorem dL_law_1282 : decode cL_law 1282 = .ok (.ireturn, 1) := by decide +kernel
