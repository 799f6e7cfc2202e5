theorem dX12_keep_0 : decode cX12_keep 0 = .ok (.aload_n 0, 1) := by decide +kernel
theorem dX12_keep_1 : decode cX12_keep 1 = .ok (.getfield 7, 3) := by decide +kernel
theorem dX12_keep_4 : decode cX12_keep 4 = .ok (.iconst 3, 1) := by decide +kernel
theorem dX12_keep_5 : decode cX12_keep 5 = .ok (.iaload, 1) := by decide +kernel
theorem dX12_keep_6 : decode cX12_keep 6 = .ok (.bipush 30, 2) := by decide +kernel
theorem dX12_keep_8 : decode cX12_keep 8 = .ok (.if_icmp .ne 48, 3) := by decide +kernel
theorem dX12_keep_11 : decode cX12_keep 11 = .ok (.iconst 0, 1) := by decide +kernel
theorem dX12_keep_12 : decode cX12_keep 12 = .ok (.istore_n 1, 1) := by decide +kernel
theorem dX12_keep_13 : decode cX12_keep 13 = .ok (.iload_n 1, 1) := by decide +kernel
theorem dX12_keep_14 : decode cX12_keep 14 = .ok (.sipush 2929, 3) := by decide +kernel
theorem dX12_keep_17 : decode cX12_keep 17 = .ok (.if_icmp .ge 29, 3) := by decide +kernel
theorem dX12_keep_20 : decode cX12_keep 20 = .ok (.aload_n 0, 1) := by decide +kernel
theorem dX12_keep_21 : decode cX12_keep 21 = .ok (.getfield 7, 3) := by decide +kernel
theorem dX12_keep_24 : decode cX12_keep 24 = .ok (.sipush 145, 3) := by decide +kernel
theorem dX12_keep_27 : decode cX12_keep 27 = .ok (.iload_n 1, 1) := by decide +kernel
theorem dX12_keep_28 : decode cX12_keep 28 = .ok (.iadd, 1) := by decide +kernel
theorem dX12_keep_29 : decode cX12_keep 29 = .ok (.aload_n 0, 1) := by decide +kernel
theorem dX12_keep_30 : decode cX12_keep 30 = .ok (.getfield 7, 3) := by decide +kernel
theorem dX12_keep_33 : decode cX12_keep 33 = .ok (.sipush 246, 3) := by decide +kernel
theorem dX12_keep_36 : decode cX12_keep 36 = .ok (.iload_n 1, 1) := by decide +kernel
theorem dX12_keep_37 : decode cX12_keep 37 = .ok (.iadd, 1) := by decide +kernel
theorem dX12_keep_38 : decode cX12_keep 38 = .ok (.iaload, 1) := by decide +kernel
theorem dX12_keep_39 : decode cX12_keep 39 = .ok (.iastore, 1) := by decide +kernel
theorem dX12_keep_40 : decode cX12_keep 40 = .ok (.iinc 1 1, 3) := by decide +kernel
theorem dX12_keep_43 : decode cX12_keep 43 = .ok (.goto (-30), 3) := by decide +kernel
theorem dX12_keep_46 : decode cX12_keep 46 = .ok (.aload_n 0, 1) := by decide +kernel
theorem dX12_keep_47 : decode cX12_keep 47 = .ok (.getfield 7, 3) := by decide +kernel
theorem dX12_keep_50 : decode cX12_keep 50 = .ok (.iconst 3, 1) := by decide +kernel
theorem dX12_keep_51 : decode cX12_keep 51 = .ok (.dup2, 1) := by decide +kernel
theorem dX12_keep_52 : decode cX12_keep 52 = .ok (.iaload, 1) := by decide +kernel
theorem dX12_keep_53 : decode cX12_keep 53 = .ok (.iconst 1, 1) := by decide +kernel
theorem dX12_keep_54 : decode cX12_keep 54 = .ok (.isub, 1) := by decide +kernel
theorem dX12_keep_55 : decode cX12_keep 55 = .ok (.iastore, 1) := by decide +kernel
theorem dX12_keep_56 : decode cX12_keep 56 = .ok (.sipush 145, 3) := by decide +kernel
theorem dX12_keep_59 : decode cX12_keep 59 = .ok (.bipush 101, 2) := by decide +kernel
theorem dX12_keep_61 : decode cX12_keep 61 = .ok (.aload_n 0, 1) := by decide +kernel
theorem dX12_keep_62 : decode cX12_keep 62 = .ok (.getfield 7, 3) := by decide +kernel
theorem dX12_keep_65 : decode cX12_keep 65 = .ok (.iconst 3, 1) := by decide +kernel
theorem dX12_keep_66 : decode cX12_keep 66 = .ok (.iaload, 1) := by decide +kernel
theorem dX12_keep_67 : decode cX12_keep 67 = .ok (.imul, 1) := by decide +kernel
theorem dX12_keep_68 : decode cX12_keep 68 = .ok (.iadd, 1) := by decide +kernel
theorem dX12_keep_69 : decode cX12_keep 69 = .ok (.istore_n 1, 1) := by decide +kernel
theorem dX12_keep_70 : decode cX12_keep 70 = .ok (.aload_n 0, 1) := by decide +kernel
theorem dX12_keep_71 : decode cX12_keep 71 = .ok (.getfield 7, 3) := by decide +kernel
theorem dX12_keep_74 : decode cX12_keep 74 = .ok (.iload_n 1, 1) := by decide +kernel
theorem dX12_keep_75 : decode cX12_keep 75 = .ok (.aload_n 0, 1) := by decide +kernel
theorem dX12_keep_76 : decode cX12_keep 76 = .ok (.getfield 7, 3) := by decide +kernel
theorem dX12_keep_79 : decode cX12_keep 79 = .ok (.iconst 0, 1) := by decide +kernel
theorem dX12_keep_80 : decode cX12_keep 80 = .ok (.iaload, 1) := by decide +kernel
theorem dX12_keep_81 : decode cX12_keep 81 = .ok (.iastore, 1) := by decide +kernel
theorem dX12_keep_82 : decode cX12_keep 82 = .ok (.iconst 0, 1) := by decide +kernel
theorem dX12_keep_83 : decode cX12_keep 83 = .ok (.istore_n 2, 1) := by decide +kernel
theorem dX12_keep_84 : decode cX12_keep 84 = .ok (.iload_n 2, 1) := by decide +kernel
theorem dX12_keep_85 : decode cX12_keep 85 = .ok (.bipush 70, 2) := by decide +kernel
theorem dX12_keep_87 : decode cX12_keep 87 = .ok (.if_icmp .ge 28, 3) := by decide +kernel
theorem dX12_keep_90 : decode cX12_keep 90 = .ok (.aload_n 0, 1) := by decide +kernel
theorem dX12_keep_91 : decode cX12_keep 91 = .ok (.getfield 7, 3) := by decide +kernel
theorem dX12_keep_94 : decode cX12_keep 94 = .ok (.iload_n 1, 1) := by decide +kernel
theorem dX12_keep_95 : decode cX12_keep 95 = .ok (.iconst 1, 1) := by decide +kernel
theorem dX12_keep_96 : decode cX12_keep 96 = .ok (.iadd, 1) := by decide +kernel
theorem dX12_keep_97 : decode cX12_keep 97 = .ok (.iload_n 2, 1) := by decide +kernel
theorem dX12_keep_98 : decode cX12_keep 98 = .ok (.iadd, 1) := by decide +kernel
theorem dX12_keep_99 : decode cX12_keep 99 = .ok (.aload_n 0, 1) := by decide +kernel
theorem dX12_keep_100 : decode cX12_keep 100 = .ok (.getfield 7, 3) := by decide +kernel
theorem dX12_keep_103 : decode cX12_keep 103 = .ok (.bipush 6, 2) := by decide +kernel
theorem dX12_keep_105 : decode cX12_keep 105 = .ok (.iload_n 2, 1) := by decide +kernel
theorem dX12_keep_106 : decode cX12_keep 106 = .ok (.iadd, 1) := by decide +kernel
theorem dX12_keep_107 : decode cX12_keep 107 = .ok (.iaload, 1) := by decide +kernel
theorem dX12_keep_108 : decode cX12_keep 108 = .ok (.iastore, 1) := by decide +kernel
theorem dX12_keep_109 : decode cX12_keep 109 = .ok (.iinc 2 1, 3) := by decide +kernel
theorem dX12_keep_112 : decode cX12_keep 112 = .ok (.goto (-28), 3) := by decide +kernel
theorem dX12_keep_115 : decode cX12_keep 115 = .ok (.iconst 0, 1) := by decide +kernel
theorem dX12_keep_116 : decode cX12_keep 116 = .ok (.istore_n 2, 1) := by decide +kernel
theorem dX12_keep_117 : decode cX12_keep 117 = .ok (.iload_n 2, 1) := by decide +kernel
theorem dX12_keep_118 : decode cX12_keep 118 = .ok (.bipush 30, 2) := by decide +kernel
theorem dX12_keep_120 : decode cX12_keep 120 = .ok (.if_icmp .ge 32, 3) := by decide +kernel
theorem dX12_keep_123 : decode cX12_keep 123 = .ok (.aload_n 0, 1) := by decide +kernel
theorem dX12_keep_124 : decode cX12_keep 124 = .ok (.getfield 7, 3) := by decide +kernel
theorem dX12_keep_127 : decode cX12_keep 127 = .ok (.iload_n 1, 1) := by decide +kernel
theorem dX12_keep_128 : decode cX12_keep 128 = .ok (.iconst 1, 1) := by decide +kernel
theorem dX12_keep_129 : decode cX12_keep 129 = .ok (.iadd, 1) := by decide +kernel
theorem dX12_keep_130 : decode cX12_keep 130 = .ok (.bipush 70, 2) := by decide +kernel
theorem dX12_keep_132 : decode cX12_keep 132 = .ok (.iadd, 1) := by decide +kernel
theorem dX12_keep_133 : decode cX12_keep 133 = .ok (.iload_n 2, 1) := by decide +kernel
theorem dX12_keep_134 : decode cX12_keep 134 = .ok (.iadd, 1) := by decide +kernel
theorem dX12_keep_135 : decode cX12_keep 135 = .ok (.aload_n 0, 1) := by decide +kernel
theorem dX12_keep_136 : decode cX12_keep 136 = .ok (.getfield 7, 3) := by decide +kernel
theorem dX12_keep_139 : decode cX12_keep 139 = .ok (.sipush 3175, 3) := by decide +kernel
theorem dX12_keep_142 : decode cX12_keep 142 = .ok (.iload_n 2, 1) := by decide +kernel
theorem dX12_keep_143 : decode cX12_keep 143 = .ok (.iadd, 1) := by decide +kernel
theorem dX12_keep_144 : decode cX12_keep 144 = .ok (.iaload, 1) := by decide +kernel
theorem dX12_keep_145 : decode cX12_keep 145 = .ok (.iastore, 1) := by decide +kernel
theorem dX12_keep_146 : decode cX12_keep 146 = .ok (.iinc 2 1, 3) := by decide +kernel
theorem dX12_keep_149 : decode cX12_keep 149 = .ok (.goto (-32), 3) := by decide +kernel
theorem dX12_keep_152 : decode cX12_keep 152 = .ok (.aload_n 0, 1) := by decide +kernel
theorem dX12_keep_153 : decode cX12_keep 153 = .ok (.getfield 7, 3) := by decide +kernel
theorem dX12_keep_156 : decode cX12_keep 156 = .ok (.iconst 3, 1) := by decide +kernel
theorem dX12_keep_157 : decode cX12_keep 157 = .ok (.dup2, 1) := by decide +kernel
theorem dX12_keep_158 : decode cX12_keep 158 = .ok (.iaload, 1) := by decide +kernel
theorem dX12_keep_159 : decode cX12_keep 159 = .ok (.iconst 1, 1) := by decide +kernel
theorem dX12_keep_160 : decode cX12_keep 160 = .ok (.iadd, 1) := by decide +kernel
theorem dX12_keep_161 : decode cX12_keep 161 = .ok (.iastore, 1) := by decide +kernel
theorem dX12_keep_162 : decode cX12_keep 162 = .ok (.return_, 1) := by decide +kernel
theorem dX12_undo_0 : decode cX12_undo 0 = .ok (.aload_n 0, 1) := by decide +kernel
theorem dX12_undo_1 : decode cX12_undo 1 = .ok (.getfield 7, 3) := by decide +kernel
theorem dX12_undo_4 : decode cX12_undo 4 = .ok (.iconst 3, 1) := by decide +kernel
theorem dX12_undo_5 : decode cX12_undo 5 = .ok (.iaload, 1) := by decide +kernel
theorem dX12_undo_6 : decode cX12_undo 6 = .ok (.ifCond .ne 5, 3) := by decide +kernel
theorem dX12_undo_9 : decode cX12_undo 9 = .ok (.iconst (-1), 1) := by decide +kernel
theorem dX12_undo_10 : decode cX12_undo 10 = .ok (.ireturn, 1) := by decide +kernel
theorem dX12_undo_11 : decode cX12_undo 11 = .ok (.aload_n 0, 1) := by decide +kernel
theorem dX12_undo_12 : decode cX12_undo 12 = .ok (.getfield 7, 3) := by decide +kernel
theorem dX12_undo_15 : decode cX12_undo 15 = .ok (.iconst 3, 1) := by decide +kernel
theorem dX12_undo_16 : decode cX12_undo 16 = .ok (.dup2, 1) := by decide +kernel
theorem dX12_undo_17 : decode cX12_undo 17 = .ok (.iaload, 1) := by decide +kernel
theorem dX12_undo_18 : decode cX12_undo 18 = .ok (.iconst 1, 1) := by decide +kernel
theorem dX12_undo_19 : decode cX12_undo 19 = .ok (.isub, 1) := by decide +kernel
theorem dX12_undo_20 : decode cX12_undo 20 = .ok (.iastore, 1) := by decide +kernel
theorem dX12_undo_21 : decode cX12_undo 21 = .ok (.sipush 145, 3) := by decide +kernel
theorem dX12_undo_24 : decode cX12_undo 24 = .ok (.bipush 101, 2) := by decide +kernel
theorem dX12_undo_26 : decode cX12_undo 26 = .ok (.aload_n 0, 1) := by decide +kernel
theorem dX12_undo_27 : decode cX12_undo 27 = .ok (.getfield 7, 3) := by decide +kernel
theorem dX12_undo_30 : decode cX12_undo 30 = .ok (.iconst 3, 1) := by decide +kernel
theorem dX12_undo_31 : decode cX12_undo 31 = .ok (.iaload, 1) := by decide +kernel
theorem dX12_undo_32 : decode cX12_undo 32 = .ok (.imul, 1) := by decide +kernel
theorem dX12_undo_33 : decode cX12_undo 33 = .ok (.iadd, 1) := by decide +kernel
theorem dX12_undo_34 : decode cX12_undo 34 = .ok (.istore_n 1, 1) := by decide +kernel
theorem dX12_undo_35 : decode cX12_undo 35 = .ok (.iconst 0, 1) := by decide +kernel
theorem dX12_undo_36 : decode cX12_undo 36 = .ok (.istore_n 2, 1) := by decide +kernel
theorem dX12_undo_37 : decode cX12_undo 37 = .ok (.iload_n 2, 1) := by decide +kernel
theorem dX12_undo_38 : decode cX12_undo 38 = .ok (.bipush 70, 2) := by decide +kernel
theorem dX12_undo_40 : decode cX12_undo 40 = .ok (.if_icmp .ge 28, 3) := by decide +kernel
theorem dX12_undo_43 : decode cX12_undo 43 = .ok (.aload_n 0, 1) := by decide +kernel
theorem dX12_undo_44 : decode cX12_undo 44 = .ok (.getfield 7, 3) := by decide +kernel
theorem dX12_undo_47 : decode cX12_undo 47 = .ok (.bipush 6, 2) := by decide +kernel
theorem dX12_undo_49 : decode cX12_undo 49 = .ok (.iload_n 2, 1) := by decide +kernel
theorem dX12_undo_50 : decode cX12_undo 50 = .ok (.iadd, 1) := by decide +kernel
theorem dX12_undo_51 : decode cX12_undo 51 = .ok (.aload_n 0, 1) := by decide +kernel
theorem dX12_undo_52 : decode cX12_undo 52 = .ok (.getfield 7, 3) := by decide +kernel
theorem dX12_undo_55 : decode cX12_undo 55 = .ok (.iload_n 1, 1) := by decide +kernel
theorem dX12_undo_56 : decode cX12_undo 56 = .ok (.iconst 1, 1) := by decide +kernel
theorem dX12_undo_57 : decode cX12_undo 57 = .ok (.iadd, 1) := by decide +kernel
theorem dX12_undo_58 : decode cX12_undo 58 = .ok (.iload_n 2, 1) := by decide +kernel
theorem dX12_undo_59 : decode cX12_undo 59 = .ok (.iadd, 1) := by decide +kernel
theorem dX12_undo_60 : decode cX12_undo 60 = .ok (.iaload, 1) := by decide +kernel
theorem dX12_undo_61 : decode cX12_undo 61 = .ok (.iastore, 1) := by decide +kernel
theorem dX12_undo_62 : decode cX12_undo 62 = .ok (.iinc 2 1, 3) := by decide +kernel
theorem dX12_undo_65 : decode cX12_undo 65 = .ok (.goto (-28), 3) := by decide +kernel
theorem dX12_undo_68 : decode cX12_undo 68 = .ok (.aload_n 0, 1) := by decide +kernel
theorem dX12_undo_69 : decode cX12_undo 69 = .ok (.getfield 7, 3) := by decide +kernel
theorem dX12_undo_72 : decode cX12_undo 72 = .ok (.iload_n 1, 1) := by decide +kernel
theorem dX12_undo_73 : decode cX12_undo 73 = .ok (.iaload, 1) := by decide +kernel
theorem dX12_undo_74 : decode cX12_undo 74 = .ok (.istore_n 2, 1) := by decide +kernel
theorem dX12_undo_75 : decode cX12_undo 75 = .ok (.iload_n 2, 1) := by decide +kernel
theorem dX12_undo_76 : decode cX12_undo 76 = .ok (.aload_n 0, 1) := by decide +kernel
theorem dX12_undo_77 : decode cX12_undo 77 = .ok (.getfield 7, 3) := by decide +kernel
theorem dX12_undo_80 : decode cX12_undo 80 = .ok (.iconst 0, 1) := by decide +kernel
theorem dX12_undo_81 : decode cX12_undo 81 = .ok (.iaload, 1) := by decide +kernel
theorem dX12_undo_82 : decode cX12_undo 82 = .ok (.if_icmp .ge 19, 3) := by decide +kernel
theorem dX12_undo_85 : decode cX12_undo 85 = .ok (.aload_n 0, 1) := by decide +kernel
theorem dX12_undo_86 : decode cX12_undo 86 = .ok (.getfield 7, 3) := by decide +kernel
theorem dX12_undo_89 : decode cX12_undo 89 = .ok (.bipush 69, 2) := by decide +kernel
theorem dX12_undo_91 : decode cX12_undo 91 = .ok (.iload_n 2, 1) := by decide +kernel
theorem dX12_undo_92 : decode cX12_undo 92 = .ok (.iadd, 1) := by decide +kernel
theorem dX12_undo_93 : decode cX12_undo 93 = .ok (.iconst (-1), 1) := by decide +kernel
theorem dX12_undo_94 : decode cX12_undo 94 = .ok (.iastore, 1) := by decide +kernel
theorem dX12_undo_95 : decode cX12_undo 95 = .ok (.iinc 2 1, 3) := by decide +kernel
theorem dX12_undo_98 : decode cX12_undo 98 = .ok (.goto (-23), 3) := by decide +kernel
theorem dX12_undo_101 : decode cX12_undo 101 = .ok (.iconst 0, 1) := by decide +kernel
theorem dX12_undo_102 : decode cX12_undo 102 = .ok (.istore_n 2, 1) := by decide +kernel
theorem dX12_undo_103 : decode cX12_undo 103 = .ok (.iload_n 2, 1) := by decide +kernel
theorem dX12_undo_104 : decode cX12_undo 104 = .ok (.bipush 30, 2) := by decide +kernel
theorem dX12_undo_106 : decode cX12_undo 106 = .ok (.if_icmp .ge 32, 3) := by decide +kernel
theorem dX12_undo_109 : decode cX12_undo 109 = .ok (.aload_n 0, 1) := by decide +kernel
theorem dX12_undo_110 : decode cX12_undo 110 = .ok (.getfield 7, 3) := by decide +kernel
theorem dX12_undo_113 : decode cX12_undo 113 = .ok (.sipush 3175, 3) := by decide +kernel
theorem dX12_undo_116 : decode cX12_undo 116 = .ok (.iload_n 2, 1) := by decide +kernel
theorem dX12_undo_117 : decode cX12_undo 117 = .ok (.iadd, 1) := by decide +kernel
theorem dX12_undo_118 : decode cX12_undo 118 = .ok (.aload_n 0, 1) := by decide +kernel
theorem dX12_undo_119 : decode cX12_undo 119 = .ok (.getfield 7, 3) := by decide +kernel
theorem dX12_undo_122 : decode cX12_undo 122 = .ok (.iload_n 1, 1) := by decide +kernel
theorem dX12_undo_123 : decode cX12_undo 123 = .ok (.iconst 1, 1) := by decide +kernel
theorem dX12_undo_124 : decode cX12_undo 124 = .ok (.iadd, 1) := by decide +kernel
theorem dX12_undo_125 : decode cX12_undo 125 = .ok (.bipush 70, 2) := by decide +kernel
theorem dX12_undo_127 : decode cX12_undo 127 = .ok (.iadd, 1) := by decide +kernel
theorem dX12_undo_128 : decode cX12_undo 128 = .ok (.iload_n 2, 1) := by decide +kernel
theorem dX12_undo_129 : decode cX12_undo 129 = .ok (.iadd, 1) := by decide +kernel
theorem dX12_undo_130 : decode cX12_undo 130 = .ok (.iaload, 1) := by decide +kernel
theorem dX12_undo_131 : decode cX12_undo 131 = .ok (.iastore, 1) := by decide +kernel
theorem dX12_undo_132 : decode cX12_undo 132 = .ok (.iinc 2 1, 3) := by decide +kernel
theorem dX12_undo_135 : decode cX12_undo 135 = .ok (.goto (-32), 3) := by decide +kernel
theorem dX12_undo_138 : decode cX12_undo 138 = .ok (.aload_n 0, 1) := by decide +kernel
theorem dX12_undo_139 : decode cX12_undo 139 = .ok (.getfield 7, 3) := by decide +kernel
theorem dX12_undo_142 : decode cX12_undo 142 = .ok (.iconst 3, 1) := by decide +kernel
theorem dX12_undo_143 : decode cX12_undo 143 = .ok (.iaload, 1) := by decide +kernel
theorem dX12_undo_144 : decode cX12_undo 144 = .ok (.ireturn, 1) := by decide +kernel
theorem dX12_canRun_0 : decode cX12_canRun 0 = .ok (.aload_n 0, 1) := by decide +kernel
theorem dX12_canRun_1 : decode cX12_canRun 1 = .ok (.iload_n 1, 1) := by decide +kernel
theorem dX12_canRun_2 : decode cX12_canRun 2 = .ok (.invokevirtual 322, 3) := by decide +kernel
theorem dX12_canRun_5 : decode cX12_canRun 5 = .ok (.ifCond .eq 20, 3) := by decide +kernel
theorem dX12_canRun_8 : decode cX12_canRun 8 = .ok (.aload_n 0, 1) := by decide +kernel
theorem dX12_canRun_9 : decode cX12_canRun 9 = .ok (.getfield 7, 3) := by decide +kernel
theorem dX12_canRun_12 : decode cX12_canRun 12 = .ok (.bipush 69, 2) := by decide +kernel
theorem dX12_canRun_14 : decode cX12_canRun 14 = .ok (.iload_n 1, 1) := by decide +kernel
theorem dX12_canRun_15 : decode cX12_canRun 15 = .ok (.iadd, 1) := by decide +kernel
theorem dX12_canRun_16 : decode cX12_canRun 16 = .ok (.iaload, 1) := by decide +kernel
theorem dX12_canRun_17 : decode cX12_canRun 17 = .ok (.iconst (-1), 1) := by decide +kernel
theorem dX12_canRun_18 : decode cX12_canRun 18 = .ok (.if_icmp .ne 7, 3) := by decide +kernel
theorem dX12_canRun_21 : decode cX12_canRun 21 = .ok (.iconst 1, 1) := by decide +kernel
theorem dX12_canRun_22 : decode cX12_canRun 22 = .ok (.goto 4, 3) := by decide +kernel
theorem dX12_canRun_25 : decode cX12_canRun 25 = .ok (.iconst 0, 1) := by decide +kernel
theorem dX12_canRun_26 : decode cX12_canRun 26 = .ok (.ireturn, 1) := by decide +kernel
theorem dX12_run_0 : decode cX12_run 0 = .ok (.aload_n 0, 1) := by decide +kernel
theorem dX12_run_1 : decode cX12_run 1 = .ok (.iload_n 1, 1) := by decide +kernel
theorem dX12_run_2 : decode cX12_run 2 = .ok (.invokevirtual 325, 3) := by decide +kernel
theorem dX12_run_5 : decode cX12_run 5 = .ok (.ifCond .eq 10, 3) := by decide +kernel
theorem dX12_run_8 : decode cX12_run 8 = .ok (.iload_n 2, 1) := by decide +kernel
theorem dX12_run_9 : decode cX12_run 9 = .ok (.invokestatic 73, 3) := by decide +kernel
theorem dX12_run_12 : decode cX12_run 12 = .ok (.ifCond .ne 5, 3) := by decide +kernel
theorem dX12_run_15 : decode cX12_run 15 = .ok (.iconst (-1), 1) := by decide +kernel
theorem dX12_run_16 : decode cX12_run 16 = .ok (.ireturn, 1) := by decide +kernel
theorem dX12_run_17 : decode cX12_run 17 = .ok (.aload_n 0, 1) := by decide +kernel
theorem dX12_run_18 : decode cX12_run 18 = .ok (.invokevirtual 328, 3) := by decide +kernel
theorem dX12_run_21 : decode cX12_run 21 = .ok (.aload_n 0, 1) := by decide +kernel
theorem dX12_run_22 : decode cX12_run 22 = .ok (.iload_n 1, 1) := by decide +kernel
theorem dX12_run_23 : decode cX12_run 23 = .ok (.iload_n 2, 1) := by decide +kernel
theorem dX12_run_24 : decode cX12_run 24 = .ok (.invokevirtual 316, 3) := by decide +kernel
theorem dX12_run_27 : decode cX12_run 27 = .ok (.aload_n 0, 1) := by decide +kernel
theorem dX12_run_28 : decode cX12_run 28 = .ok (.getfield 7, 3) := by decide +kernel
theorem dX12_run_31 : decode cX12_run 31 = .ok (.bipush 69, 2) := by decide +kernel
theorem dX12_run_33 : decode cX12_run 33 = .ok (.iload_n 1, 1) := by decide +kernel
theorem dX12_run_34 : decode cX12_run 34 = .ok (.iadd, 1) := by decide +kernel
theorem dX12_run_35 : decode cX12_run 35 = .ok (.iaload, 1) := by decide +kernel
theorem dX12_run_36 : decode cX12_run 36 = .ok (.ireturn, 1) := by decide +kernel
theorem dX12_cut_0 : decode cX12_cut 0 = .ok (.iload_n 1, 1) := by decide +kernel
theorem dX12_cut_1 : decode cX12_cut 1 = .ok (.invokestatic 73, 3) := by decide +kernel
theorem dX12_cut_4 : decode cX12_cut 4 = .ok (.ifCond .eq 11, 3) := by decide +kernel
theorem dX12_cut_7 : decode cX12_cut 7 = .ok (.aload_n 0, 1) := by decide +kernel
theorem dX12_cut_8 : decode cX12_cut 8 = .ok (.iload_n 1, 1) := by decide +kernel
theorem dX12_cut_9 : decode cX12_cut 9 = .ok (.invokevirtual 300, 3) := by decide +kernel
theorem dX12_cut_12 : decode cX12_cut 12 = .ok (.ifCond .ne 5, 3) := by decide +kernel
theorem dX12_cut_15 : decode cX12_cut 15 = .ok (.iconst 0, 1) := by decide +kernel
theorem dX12_cut_16 : decode cX12_cut 16 = .ok (.ireturn, 1) := by decide +kernel
theorem dX12_cut_17 : decode cX12_cut 17 = .ok (.aload_n 0, 1) := by decide +kernel
theorem dX12_cut_18 : decode cX12_cut 18 = .ok (.invokevirtual 328, 3) := by decide +kernel
theorem dX12_cut_21 : decode cX12_cut 21 = .ok (.aload_n 0, 1) := by decide +kernel
theorem dX12_cut_22 : decode cX12_cut 22 = .ok (.getfield 7, 3) := by decide +kernel
theorem dX12_cut_25 : decode cX12_cut 25 = .ok (.bipush 9, 2) := by decide +kernel
theorem dX12_cut_27 : decode cX12_cut 27 = .ok (.iload_n 1, 1) := by decide +kernel
theorem dX12_cut_28 : decode cX12_cut 28 = .ok (.iadd, 1) := by decide +kernel
theorem dX12_cut_29 : decode cX12_cut 29 = .ok (.iconst 0, 1) := by decide +kernel
theorem dX12_cut_30 : decode cX12_cut 30 = .ok (.iastore, 1) := by decide +kernel
theorem dX12_cut_31 : decode cX12_cut 31 = .ok (.iconst 1, 1) := by decide +kernel
theorem dX12_cut_32 : decode cX12_cut 32 = .ok (.ireturn, 1) := by decide +kernel
theorem dX12_addNow_0 : decode cX12_addNow 0 = .ok (.aload_n 0, 1) := by decide +kernel
theorem dX12_addNow_1 : decode cX12_addNow 1 = .ok (.getfield 7, 3) := by decide +kernel
theorem dX12_addNow_4 : decode cX12_addNow 4 = .ok (.bipush 9, 2) := by decide +kernel
theorem dX12_addNow_6 : decode cX12_addNow 6 = .ok (.iload_n 1, 1) := by decide +kernel
theorem dX12_addNow_7 : decode cX12_addNow 7 = .ok (.iadd, 1) := by decide +kernel
theorem dX12_addNow_8 : decode cX12_addNow 8 = .ok (.iconst 1, 1) := by decide +kernel
theorem dX12_addNow_9 : decode cX12_addNow 9 = .ok (.iastore, 1) := by decide +kernel
theorem dX12_addNow_10 : decode cX12_addNow 10 = .ok (.aload_n 0, 1) := by decide +kernel
theorem dX12_addNow_11 : decode cX12_addNow 11 = .ok (.getfield 7, 3) := by decide +kernel
theorem dX12_addNow_14 : decode cX12_addNow 14 = .ok (.bipush 39, 2) := by decide +kernel
theorem dX12_addNow_16 : decode cX12_addNow 16 = .ok (.iload_n 1, 1) := by decide +kernel
theorem dX12_addNow_17 : decode cX12_addNow 17 = .ok (.iadd, 1) := by decide +kernel
theorem dX12_addNow_18 : decode cX12_addNow 18 = .ok (.iconst 0, 1) := by decide +kernel
theorem dX12_addNow_19 : decode cX12_addNow 19 = .ok (.iastore, 1) := by decide +kernel
theorem dX12_addNow_20 : decode cX12_addNow 20 = .ok (.return_, 1) := by decide +kernel
theorem dX12_add_0 : decode cX12_add 0 = .ok (.iload_n 1, 1) := by decide +kernel
theorem dX12_add_1 : decode cX12_add 1 = .ok (.invokestatic 73, 3) := by decide +kernel
theorem dX12_add_4 : decode cX12_add 4 = .ok (.ifCond .eq 15, 3) := by decide +kernel
theorem dX12_add_7 : decode cX12_add 7 = .ok (.aload_n 0, 1) := by decide +kernel
theorem dX12_add_8 : decode cX12_add 8 = .ok (.getfield 7, 3) := by decide +kernel
theorem dX12_add_11 : decode cX12_add 11 = .ok (.bipush 9, 2) := by decide +kernel
theorem dX12_add_13 : decode cX12_add 13 = .ok (.iload_n 1, 1) := by decide +kernel
theorem dX12_add_14 : decode cX12_add 14 = .ok (.iadd, 1) := by decide +kernel
theorem dX12_add_15 : decode cX12_add 15 = .ok (.iaload, 1) := by decide +kernel
theorem dX12_add_16 : decode cX12_add 16 = .ok (.ifCond .eq 5, 3) := by decide +kernel
theorem dX12_add_19 : decode cX12_add 19 = .ok (.iconst 0, 1) := by decide +kernel
theorem dX12_add_20 : decode cX12_add 20 = .ok (.ireturn, 1) := by decide +kernel
theorem dX12_add_21 : decode cX12_add 21 = .ok (.aload_n 0, 1) := by decide +kernel
theorem dX12_add_22 : decode cX12_add 22 = .ok (.invokevirtual 328, 3) := by decide +kernel
theorem dX12_add_25 : decode cX12_add 25 = .ok (.aload_n 0, 1) := by decide +kernel
theorem dX12_add_26 : decode cX12_add 26 = .ok (.iload_n 1, 1) := by decide +kernel
theorem dX12_add_27 : decode cX12_add 27 = .ok (.invokevirtual 331, 3) := by decide +kernel
theorem dX12_add_30 : decode cX12_add 30 = .ok (.iconst 1, 1) := by decide +kernel
theorem dX12_add_31 : decode cX12_add 31 = .ok (.ireturn, 1) := by decide +kernel
theorem dX12_arePassed_0 : decode cX12_arePassed 0 = .ok (.aload_n 0, 1) := by decide +kernel
theorem dX12_arePassed_1 : decode cX12_arePassed 1 = .ok (.iconst 0, 1) := by decide +kernel
theorem dX12_arePassed_2 : decode cX12_arePassed 2 = .ok (.putfield 310, 3) := by decide +kernel
theorem dX12_arePassed_5 : decode cX12_arePassed 5 = .ok (.iconst 0, 1) := by decide +kernel
theorem dX12_arePassed_6 : decode cX12_arePassed 6 = .ok (.istore_n 2, 1) := by decide +kernel
theorem dX12_arePassed_7 : decode cX12_arePassed 7 = .ok (.iload_n 2, 1) := by decide +kernel
theorem dX12_arePassed_8 : decode cX12_arePassed 8 = .ok (.iload_n 1, 1) := by decide +kernel
theorem dX12_arePassed_9 : decode cX12_arePassed 9 = .ok (.if_icmp .ge 32, 3) := by decide +kernel
theorem dX12_arePassed_12 : decode cX12_arePassed 12 = .ok (.aload_n 0, 1) := by decide +kernel
theorem dX12_arePassed_13 : decode cX12_arePassed 13 = .ok (.getfield 7, 3) := by decide +kernel
theorem dX12_arePassed_16 : decode cX12_arePassed 16 = .ok (.bipush 6, 2) := by decide +kernel
theorem dX12_arePassed_18 : decode cX12_arePassed 18 = .ok (.iaload, 1) := by decide +kernel
theorem dX12_arePassed_19 : decode cX12_arePassed 19 = .ok (.sipush 9999, 3) := by decide +kernel
theorem dX12_arePassed_22 : decode cX12_arePassed 22 = .ok (.if_icmp .ne 5, 3) := by decide +kernel
theorem dX12_arePassed_25 : decode cX12_arePassed 25 = .ok (.iconst 0, 1) := by decide +kernel
theorem dX12_arePassed_26 : decode cX12_arePassed 26 = .ok (.ireturn, 1) := by decide +kernel
theorem dX12_arePassed_27 : decode cX12_arePassed 27 = .ok (.aload_n 0, 1) := by decide +kernel
theorem dX12_arePassed_28 : decode cX12_arePassed 28 = .ok (.invokevirtual 328, 3) := by decide +kernel
theorem dX12_arePassed_31 : decode cX12_arePassed 31 = .ok (.aload_n 0, 1) := by decide +kernel
theorem dX12_arePassed_32 : decode cX12_arePassed 32 = .ok (.invokevirtual 334, 3) := by decide +kernel
theorem dX12_arePassed_35 : decode cX12_arePassed 35 = .ok (.iinc 2 1, 3) := by decide +kernel
theorem dX12_arePassed_38 : decode cX12_arePassed 38 = .ok (.goto (-31), 3) := by decide +kernel
theorem dX12_arePassed_41 : decode cX12_arePassed 41 = .ok (.iconst 1, 1) := by decide +kernel
theorem dX12_arePassed_42 : decode cX12_arePassed 42 = .ok (.ireturn, 1) := by decide +kernel
theorem dX12_year_0 : decode cX12_year 0 = .ok (.iload_n 1, 1) := by decide +kernel
theorem dX12_year_1 : decode cX12_year 1 = .ok (.iconst 1, 1) := by decide +kernel
theorem dX12_year_2 : decode cX12_year 2 = .ok (.bipush 60, 2) := by decide +kernel
theorem dX12_year_4 : decode cX12_year 4 = .ok (.invokestatic 69, 3) := by decide +kernel
theorem dX12_year_7 : decode cX12_year 7 = .ok (.ifCond .eq 33, 3) := by decide +kernel
theorem dX12_year_10 : decode cX12_year 10 = .ok (.aload_n 0, 1) := by decide +kernel
theorem dX12_year_11 : decode cX12_year 11 = .ok (.getfield 7, 3) := by decide +kernel
theorem dX12_year_14 : decode cX12_year 14 = .ok (.bipush 6, 2) := by decide +kernel
theorem dX12_year_16 : decode cX12_year 16 = .ok (.iaload, 1) := by decide +kernel
theorem dX12_year_17 : decode cX12_year 17 = .ok (.iload_n 1, 1) := by decide +kernel
theorem dX12_year_18 : decode cX12_year 18 = .ok (.iadd, 1) := by decide +kernel
theorem dX12_year_19 : decode cX12_year 19 = .ok (.sipush 9999, 3) := by decide +kernel
theorem dX12_year_22 : decode cX12_year 22 = .ok (.if_icmp .gt 18, 3) := by decide +kernel
theorem dX12_year_25 : decode cX12_year 25 = .ok (.aload_n 0, 1) := by decide +kernel
theorem dX12_year_26 : decode cX12_year 26 = .ok (.iload_n 1, 1) := by decide +kernel
theorem dX12_year_27 : decode cX12_year 27 = .ok (.invokevirtual 337, 3) := by decide +kernel
theorem dX12_year_30 : decode cX12_year 30 = .ok (.ifCond .eq 10, 3) := by decide +kernel
theorem dX12_year_33 : decode cX12_year 33 = .ok (.aload_n 0, 1) := by decide +kernel
theorem dX12_year_34 : decode cX12_year 34 = .ok (.getfield 310, 3) := by decide +kernel
theorem dX12_year_37 : decode cX12_year 37 = .ok (.goto 4, 3) := by decide +kernel
theorem dX12_year_40 : decode cX12_year 40 = .ok (.iconst (-1), 1) := by decide +kernel
theorem dX12_year_41 : decode cX12_year 41 = .ok (.ireturn, 1) := by decide +kernel
theorem dX12_isPlayed_0 : decode cX12_isPlayed 0 = .ok (.aload_n 0, 1) := by decide +kernel
theorem dX12_isPlayed_1 : decode cX12_isPlayed 1 = .ok (.getfield 16, 3) := by decide +kernel
theorem dX12_isPlayed_4 : decode cX12_isPlayed 4 = .ok (.iload_n 1, 1) := by decide +kernel
theorem dX12_isPlayed_5 : decode cX12_isPlayed 5 = .ok (.iconst 1, 1) := by decide +kernel
theorem dX12_isPlayed_6 : decode cX12_isPlayed 6 = .ok (.iadd, 1) := by decide +kernel
theorem dX12_isPlayed_7 : decode cX12_isPlayed 7 = .ok (.iaload, 1) := by decide +kernel
theorem dX12_isPlayed_8 : decode cX12_isPlayed 8 = .ok (.istore_n 2, 1) := by decide +kernel
theorem dX12_isPlayed_9 : decode cX12_isPlayed 9 = .ok (.aload_n 0, 1) := by decide +kernel
theorem dX12_isPlayed_10 : decode cX12_isPlayed 10 = .ok (.getfield 16, 3) := by decide +kernel
theorem dX12_isPlayed_13 : decode cX12_isPlayed 13 = .ok (.iload_n 1, 1) := by decide +kernel
theorem dX12_isPlayed_14 : decode cX12_isPlayed 14 = .ok (.iconst 2, 1) := by decide +kernel
theorem dX12_isPlayed_15 : decode cX12_isPlayed 15 = .ok (.iadd, 1) := by decide +kernel
theorem dX12_isPlayed_16 : decode cX12_isPlayed 16 = .ok (.iaload, 1) := by decide +kernel
theorem dX12_isPlayed_17 : decode cX12_isPlayed 17 = .ok (.istore_n 3, 1) := by decide +kernel
theorem dX12_isPlayed_18 : decode cX12_isPlayed 18 = .ok (.aload_n 0, 1) := by decide +kernel
theorem dX12_isPlayed_19 : decode cX12_isPlayed 19 = .ok (.getfield 16, 3) := by decide +kernel
theorem dX12_isPlayed_22 : decode cX12_isPlayed 22 = .ok (.iload_n 1, 1) := by decide +kernel
theorem dX12_isPlayed_23 : decode cX12_isPlayed 23 = .ok (.iaload, 1) := by decide +kernel
theorem dX12_isPlayed_24 : decode cX12_isPlayed 24 = .ok (.tableswitch 106 2 8 #[44, 51, 58, 73, 88, 94, 100], 44) := by decide +kernel
theorem dX12_isPlayed_68 : decode cX12_isPlayed 68 = .ok (.aload_n 0, 1) := by decide +kernel
theorem dX12_isPlayed_69 : decode cX12_isPlayed 69 = .ok (.iload_n 2, 1) := by decide +kernel
theorem dX12_isPlayed_70 : decode cX12_isPlayed 70 = .ok (.iload_n 3, 1) := by decide +kernel
theorem dX12_isPlayed_71 : decode cX12_isPlayed 71 = .ok (.invokevirtual 340, 3) := by decide +kernel
theorem dX12_isPlayed_74 : decode cX12_isPlayed 74 = .ok (.ireturn, 1) := by decide +kernel
theorem dX12_isPlayed_75 : decode cX12_isPlayed 75 = .ok (.aload_n 0, 1) := by decide +kernel
theorem dX12_isPlayed_76 : decode cX12_isPlayed 76 = .ok (.iload_n 3, 1) := by decide +kernel
theorem dX12_isPlayed_77 : decode cX12_isPlayed 77 = .ok (.iload_n 2, 1) := by decide +kernel
theorem dX12_isPlayed_78 : decode cX12_isPlayed 78 = .ok (.invokevirtual 343, 3) := by decide +kernel
theorem dX12_isPlayed_81 : decode cX12_isPlayed 81 = .ok (.ireturn, 1) := by decide +kernel
theorem dX12_isPlayed_82 : decode cX12_isPlayed 82 = .ok (.aload_n 0, 1) := by decide +kernel
theorem dX12_isPlayed_83 : decode cX12_isPlayed 83 = .ok (.iload_n 2, 1) := by decide +kernel
theorem dX12_isPlayed_84 : decode cX12_isPlayed 84 = .ok (.iload_n 3, 1) := by decide +kernel
theorem dX12_isPlayed_85 : decode cX12_isPlayed 85 = .ok (.invokevirtual 346, 3) := by decide +kernel
theorem dX12_isPlayed_88 : decode cX12_isPlayed 88 = .ok (.ifCond .lt 7, 3) := by decide +kernel
theorem dX12_isPlayed_91 : decode cX12_isPlayed 91 = .ok (.iconst 1, 1) := by decide +kernel
theorem dX12_isPlayed_92 : decode cX12_isPlayed 92 = .ok (.goto 4, 3) := by decide +kernel
theorem dX12_isPlayed_95 : decode cX12_isPlayed 95 = .ok (.iconst 0, 1) := by decide +kernel
theorem dX12_isPlayed_96 : decode cX12_isPlayed 96 = .ok (.ireturn, 1) := by decide +kernel
theorem dX12_isPlayed_97 : decode cX12_isPlayed 97 = .ok (.aload_n 0, 1) := by decide +kernel
theorem dX12_isPlayed_98 : decode cX12_isPlayed 98 = .ok (.iload_n 2, 1) := by decide +kernel
theorem dX12_isPlayed_99 : decode cX12_isPlayed 99 = .ok (.iload_n 3, 1) := by decide +kernel
theorem dX12_isPlayed_100 : decode cX12_isPlayed 100 = .ok (.invokevirtual 349, 3) := by decide +kernel
theorem dX12_isPlayed_103 : decode cX12_isPlayed 103 = .ok (.ifCond .lt 7, 3) := by decide +kernel
theorem dX12_isPlayed_106 : decode cX12_isPlayed 106 = .ok (.iconst 1, 1) := by decide +kernel
theorem dX12_isPlayed_107 : decode cX12_isPlayed 107 = .ok (.goto 4, 3) := by decide +kernel
theorem dX12_isPlayed_110 : decode cX12_isPlayed 110 = .ok (.iconst 0, 1) := by decide +kernel
theorem dX12_isPlayed_111 : decode cX12_isPlayed 111 = .ok (.ireturn, 1) := by decide +kernel
theorem dX12_isPlayed_112 : decode cX12_isPlayed 112 = .ok (.aload_n 0, 1) := by decide +kernel
theorem dX12_isPlayed_113 : decode cX12_isPlayed 113 = .ok (.iload_n 2, 1) := by decide +kernel
theorem dX12_isPlayed_114 : decode cX12_isPlayed 114 = .ok (.invokevirtual 352, 3) := by decide +kernel
theorem dX12_isPlayed_117 : decode cX12_isPlayed 117 = .ok (.ireturn, 1) := by decide +kernel
theorem dX12_isPlayed_118 : decode cX12_isPlayed 118 = .ok (.aload_n 0, 1) := by decide +kernel
theorem dX12_isPlayed_119 : decode cX12_isPlayed 119 = .ok (.iload_n 2, 1) := by decide +kernel
theorem dX12_isPlayed_120 : decode cX12_isPlayed 120 = .ok (.invokevirtual 355, 3) := by decide +kernel
theorem dX12_isPlayed_123 : decode cX12_isPlayed 123 = .ok (.ireturn, 1) := by decide +kernel
theorem dX12_isPlayed_124 : decode cX12_isPlayed 124 = .ok (.aload_n 0, 1) := by decide +kernel
theorem dX12_isPlayed_125 : decode cX12_isPlayed 125 = .ok (.iload_n 2, 1) := by decide +kernel
theorem dX12_isPlayed_126 : decode cX12_isPlayed 126 = .ok (.invokevirtual 337, 3) := by decide +kernel
theorem dX12_isPlayed_129 : decode cX12_isPlayed 129 = .ok (.ireturn, 1) := by decide +kernel
theorem dX12_isPlayed_130 : decode cX12_isPlayed 130 = .ok (.iconst 1, 1) := by decide +kernel
theorem dX12_isPlayed_131 : decode cX12_isPlayed 131 = .ok (.ireturn, 1) := by decide +kernel
theorem dX12_played_0 : decode cX12_played 0 = .ok (.iload_n 1, 1) := by decide +kernel
theorem dX12_played_1 : decode cX12_played 1 = .ok (.iconst 0, 1) := by decide +kernel
theorem dX12_played_2 : decode cX12_played 2 = .ok (.aload_n 0, 1) := by decide +kernel
theorem dX12_played_3 : decode cX12_played 3 = .ok (.getfield 7, 3) := by decide +kernel
theorem dX12_played_6 : decode cX12_played 6 = .ok (.iconst 1, 1) := by decide +kernel
theorem dX12_played_7 : decode cX12_played 7 = .ok (.iaload, 1) := by decide +kernel
theorem dX12_played_8 : decode cX12_played 8 = .ok (.iconst 1, 1) := by decide +kernel
theorem dX12_played_9 : decode cX12_played 9 = .ok (.isub, 1) := by decide +kernel
theorem dX12_played_10 : decode cX12_played 10 = .ok (.invokestatic 69, 3) := by decide +kernel
theorem dX12_played_13 : decode cX12_played 13 = .ok (.ifCond .ne 6, 3) := by decide +kernel
theorem dX12_played_16 : decode cX12_played 16 = .ok (.bipush (-2), 2) := by decide +kernel
theorem dX12_played_18 : decode cX12_played 18 = .ok (.ireturn, 1) := by decide +kernel
theorem dX12_played_19 : decode cX12_played 19 = .ok (.iconst 0, 1) := by decide +kernel
theorem dX12_played_20 : decode cX12_played 20 = .ok (.istore_n 2, 1) := by decide +kernel
theorem dX12_played_21 : decode cX12_played 21 = .ok (.iload_n 2, 1) := by decide +kernel
theorem dX12_played_22 : decode cX12_played 22 = .ok (.aload_n 0, 1) := by decide +kernel
theorem dX12_played_23 : decode cX12_played 23 = .ok (.getfield 16, 3) := by decide +kernel
theorem dX12_played_26 : decode cX12_played 26 = .ok (.sipush 681, 3) := by decide +kernel
theorem dX12_played_29 : decode cX12_played 29 = .ok (.iload_n 1, 1) := by decide +kernel
theorem dX12_played_30 : decode cX12_played 30 = .ok (.imul, 1) := by decide +kernel
theorem dX12_played_31 : decode cX12_played 31 = .ok (.iaload, 1) := by decide +kernel
theorem dX12_played_32 : decode cX12_played 32 = .ok (.if_icmp .ge 29, 3) := by decide +kernel
theorem dX12_played_35 : decode cX12_played 35 = .ok (.aload_n 0, 1) := by decide +kernel
theorem dX12_played_36 : decode cX12_played 36 = .ok (.sipush 681, 3) := by decide +kernel
theorem dX12_played_39 : decode cX12_played 39 = .ok (.iload_n 1, 1) := by decide +kernel
theorem dX12_played_40 : decode cX12_played 40 = .ok (.imul, 1) := by decide +kernel
theorem dX12_played_41 : decode cX12_played 41 = .ok (.iconst 1, 1) := by decide +kernel
theorem dX12_played_42 : decode cX12_played 42 = .ok (.iadd, 1) := by decide +kernel
theorem dX12_played_43 : decode cX12_played 43 = .ok (.iconst 3, 1) := by decide +kernel
theorem dX12_played_44 : decode cX12_played 44 = .ok (.iload_n 2, 1) := by decide +kernel
theorem dX12_played_45 : decode cX12_played 45 = .ok (.imul, 1) := by decide +kernel
theorem dX12_played_46 : decode cX12_played 46 = .ok (.iadd, 1) := by decide +kernel
theorem dX12_played_47 : decode cX12_played 47 = .ok (.invokevirtual 358, 3) := by decide +kernel
theorem dX12_played_50 : decode cX12_played 50 = .ok (.ifCond .ne 5, 3) := by decide +kernel
theorem dX12_played_53 : decode cX12_played 53 = .ok (.iload_n 2, 1) := by decide +kernel
theorem dX12_played_54 : decode cX12_played 54 = .ok (.ireturn, 1) := by decide +kernel
theorem dX12_played_55 : decode cX12_played 55 = .ok (.iinc 2 1, 3) := by decide +kernel
theorem dX12_played_58 : decode cX12_played 58 = .ok (.goto (-37), 3) := by decide +kernel
theorem dX12_played_61 : decode cX12_played 61 = .ok (.iconst (-1), 1) := by decide +kernel
theorem dX12_played_62 : decode cX12_played 62 = .ok (.ireturn, 1) := by decide +kernel
theorem dX12_happens_0 : decode cX12_happens 0 = .ok (.iload_n 1, 1) := by decide +kernel
theorem dX12_happens_1 : decode cX12_happens 1 = .ok (.bipush 6, 2) := by decide +kernel
theorem dX12_happens_3 : decode cX12_happens 3 = .ok (.idiv, 1) := by decide +kernel
theorem dX12_happens_4 : decode cX12_happens 4 = .ok (.bipush 30, 2) := by decide +kernel
theorem dX12_happens_6 : decode cX12_happens 6 = .ok (.irem, 1) := by decide +kernel
theorem dX12_happens_7 : decode cX12_happens 7 = .ok (.istore_n 2, 1) := by decide +kernel
theorem dX12_happens_8 : decode cX12_happens 8 = .ok (.iload_n 1, 1) := by decide +kernel
theorem dX12_happens_9 : decode cX12_happens 9 = .ok (.bipush 6, 2) := by decide +kernel
theorem dX12_happens_11 : decode cX12_happens 11 = .ok (.irem, 1) := by decide +kernel
theorem dX12_happens_12 : decode cX12_happens 12 = .ok (.tableswitch 113 0 3 #[32, 32, 72, 93], 32) := by decide +kernel
theorem dX12_happens_44 : decode cX12_happens 44 = .ok (.aload_n 0, 1) := by decide +kernel
theorem dX12_happens_45 : decode cX12_happens 45 = .ok (.getfield 7, 3) := by decide +kernel
theorem dX12_happens_48 : decode cX12_happens 48 = .ok (.iconst 0, 1) := by decide +kernel
theorem dX12_happens_49 : decode cX12_happens 49 = .ok (.iaload, 1) := by decide +kernel
theorem dX12_happens_50 : decode cX12_happens 50 = .ok (.ifCond .le 92, 3) := by decide +kernel
theorem dX12_happens_53 : decode cX12_happens 53 = .ok (.aload_n 0, 1) := by decide +kernel
theorem dX12_happens_54 : decode cX12_happens 54 = .ok (.iload_n 1, 1) := by decide +kernel
theorem dX12_happens_55 : decode cX12_happens 55 = .ok (.aload_n 0, 1) := by decide +kernel
theorem dX12_happens_56 : decode cX12_happens 56 = .ok (.getfield 7, 3) := by decide +kernel
theorem dX12_happens_59 : decode cX12_happens 59 = .ok (.iconst 0, 1) := by decide +kernel
theorem dX12_happens_60 : decode cX12_happens 60 = .ok (.iaload, 1) := by decide +kernel
theorem dX12_happens_61 : decode cX12_happens 61 = .ok (.irem, 1) := by decide +kernel
theorem dX12_happens_62 : decode cX12_happens 62 = .ok (.invokevirtual 325, 3) := by decide +kernel
theorem dX12_happens_65 : decode cX12_happens 65 = .ok (.ifCond .eq 77, 3) := by decide +kernel
theorem dX12_happens_68 : decode cX12_happens 68 = .ok (.aload_n 0, 1) := by decide +kernel
theorem dX12_happens_69 : decode cX12_happens 69 = .ok (.iload_n 1, 1) := by decide +kernel
theorem dX12_happens_70 : decode cX12_happens 70 = .ok (.aload_n 0, 1) := by decide +kernel
theorem dX12_happens_71 : decode cX12_happens 71 = .ok (.getfield 7, 3) := by decide +kernel
theorem dX12_happens_74 : decode cX12_happens 74 = .ok (.iconst 0, 1) := by decide +kernel
theorem dX12_happens_75 : decode cX12_happens 75 = .ok (.iaload, 1) := by decide +kernel
theorem dX12_happens_76 : decode cX12_happens 76 = .ok (.irem, 1) := by decide +kernel
theorem dX12_happens_77 : decode cX12_happens 77 = .ok (.iload_n 2, 1) := by decide +kernel
theorem dX12_happens_78 : decode cX12_happens 78 = .ok (.invokevirtual 316, 3) := by decide +kernel
theorem dX12_happens_81 : decode cX12_happens 81 = .ok (.goto 61, 3) := by decide +kernel
theorem dX12_happens_84 : decode cX12_happens 84 = .ok (.aload_n 0, 1) := by decide +kernel
theorem dX12_happens_85 : decode cX12_happens 85 = .ok (.iload_n 2, 1) := by decide +kernel
theorem dX12_happens_86 : decode cX12_happens 86 = .ok (.invokevirtual 300, 3) := by decide +kernel
theorem dX12_happens_89 : decode cX12_happens 89 = .ok (.ifCond .eq 53, 3) := by decide +kernel
theorem dX12_happens_92 : decode cX12_happens 92 = .ok (.aload_n 0, 1) := by decide +kernel
theorem dX12_happens_93 : decode cX12_happens 93 = .ok (.getfield 7, 3) := by decide +kernel
theorem dX12_happens_96 : decode cX12_happens 96 = .ok (.bipush 9, 2) := by decide +kernel
theorem dX12_happens_98 : decode cX12_happens 98 = .ok (.iload_n 2, 1) := by decide +kernel
theorem dX12_happens_99 : decode cX12_happens 99 = .ok (.iadd, 1) := by decide +kernel
theorem dX12_happens_100 : decode cX12_happens 100 = .ok (.iconst 0, 1) := by decide +kernel
theorem dX12_happens_101 : decode cX12_happens 101 = .ok (.iastore, 1) := by decide +kernel
theorem dX12_happens_102 : decode cX12_happens 102 = .ok (.goto 40, 3) := by decide +kernel
theorem dX12_happens_105 : decode cX12_happens 105 = .ok (.aload_n 0, 1) := by decide +kernel
theorem dX12_happens_106 : decode cX12_happens 106 = .ok (.getfield 7, 3) := by decide +kernel
theorem dX12_happens_109 : decode cX12_happens 109 = .ok (.bipush 9, 2) := by decide +kernel
theorem dX12_happens_111 : decode cX12_happens 111 = .ok (.iload_n 2, 1) := by decide +kernel
theorem dX12_happens_112 : decode cX12_happens 112 = .ok (.iadd, 1) := by decide +kernel
theorem dX12_happens_113 : decode cX12_happens 113 = .ok (.iaload, 1) := by decide +kernel
theorem dX12_happens_114 : decode cX12_happens 114 = .ok (.ifCond .ne 28, 3) := by decide +kernel
theorem dX12_happens_117 : decode cX12_happens 117 = .ok (.aload_n 0, 1) := by decide +kernel
theorem dX12_happens_118 : decode cX12_happens 118 = .ok (.iload_n 2, 1) := by decide +kernel
theorem dX12_happens_119 : decode cX12_happens 119 = .ok (.invokevirtual 331, 3) := by decide +kernel
theorem dX12_happens_122 : decode cX12_happens 122 = .ok (.goto 20, 3) := by decide +kernel
theorem dX12_happens_125 : decode cX12_happens 125 = .ok (.aload_n 0, 1) := by decide +kernel
theorem dX12_happens_126 : decode cX12_happens 126 = .ok (.getfield 7, 3) := by decide +kernel
theorem dX12_happens_129 : decode cX12_happens 129 = .ok (.bipush 6, 2) := by decide +kernel
theorem dX12_happens_131 : decode cX12_happens 131 = .ok (.iaload, 1) := by decide +kernel
theorem dX12_happens_132 : decode cX12_happens 132 = .ok (.sipush 9999, 3) := by decide +kernel
theorem dX12_happens_135 : decode cX12_happens 135 = .ok (.if_icmp .ge 7, 3) := by decide +kernel
theorem dX12_happens_138 : decode cX12_happens 138 = .ok (.aload_n 0, 1) := by decide +kernel
theorem dX12_happens_139 : decode cX12_happens 139 = .ok (.invokevirtual 334, 3) := by decide +kernel
theorem dX12_happens_142 : decode cX12_happens 142 = .ok (.return_, 1) := by decide +kernel
theorem dX12_ages_0 : decode cX12_ages 0 = .ok (.iload_n 1, 1) := by decide +kernel
theorem dX12_ages_1 : decode cX12_ages 1 = .ok (.iconst 0, 1) := by decide +kernel
theorem dX12_ages_2 : decode cX12_ages 2 = .ok (.sipush 9999, 3) := by decide +kernel
theorem dX12_ages_5 : decode cX12_ages 5 = .ok (.invokestatic 69, 3) := by decide +kernel
theorem dX12_ages_8 : decode cX12_ages 8 = .ok (.ifCond .eq 13, 3) := by decide +kernel
theorem dX12_ages_11 : decode cX12_ages 11 = .ok (.iload_n 2, 1) := by decide +kernel
theorem dX12_ages_12 : decode cX12_ages 12 = .ok (.iconst 1, 1) := by decide +kernel
theorem dX12_ages_13 : decode cX12_ages 13 = .ok (.bipush 40, 2) := by decide +kernel
theorem dX12_ages_15 : decode cX12_ages 15 = .ok (.invokestatic 69, 3) := by decide +kernel
theorem dX12_ages_18 : decode cX12_ages 18 = .ok (.ifCond .ne 5, 3) := by decide +kernel
theorem dX12_ages_21 : decode cX12_ages 21 = .ok (.iconst (-1), 1) := by decide +kernel
theorem dX12_ages_22 : decode cX12_ages 22 = .ok (.ireturn, 1) := by decide +kernel
theorem dX12_ages_23 : decode cX12_ages 23 = .ok (.aload_n 0, 1) := by decide +kernel
theorem dX12_ages_24 : decode cX12_ages 24 = .ok (.invokevirtual 328, 3) := by decide +kernel
theorem dX12_ages_27 : decode cX12_ages 27 = .ok (.aload_n 0, 1) := by decide +kernel
theorem dX12_ages_28 : decode cX12_ages 28 = .ok (.getfield 7, 3) := by decide +kernel
theorem dX12_ages_31 : decode cX12_ages 31 = .ok (.bipush 7, 2) := by decide +kernel
theorem dX12_ages_33 : decode cX12_ages 33 = .ok (.iload_n 1, 1) := by decide +kernel
theorem dX12_ages_34 : decode cX12_ages 34 = .ok (.iconst 2, 1) := by decide +kernel
theorem dX12_ages_35 : decode cX12_ages 35 = .ok (.imul, 1) := by decide +kernel
theorem dX12_ages_36 : decode cX12_ages 36 = .ok (.sipush 263, 3) := by decide +kernel
theorem dX12_ages_39 : decode cX12_ages 39 = .ok (.iadd, 1) := by decide +kernel
theorem dX12_ages_40 : decode cX12_ages 40 = .ok (.iastore, 1) := by decide +kernel
theorem dX12_ages_41 : decode cX12_ages 41 = .ok (.iconst 0, 1) := by decide +kernel
theorem dX12_ages_42 : decode cX12_ages 42 = .ok (.istore_n 3, 1) := by decide +kernel
theorem dX12_ages_43 : decode cX12_ages 43 = .ok (.iload_n 3, 1) := by decide +kernel
theorem dX12_ages_44 : decode cX12_ages 44 = .ok (.iload_n 2, 1) := by decide +kernel
theorem dX12_ages_45 : decode cX12_ages 45 = .ok (.if_icmp .ge 28, 3) := by decide +kernel
theorem dX12_ages_48 : decode cX12_ages 48 = .ok (.aload_n 0, 1) := by decide +kernel
theorem dX12_ages_49 : decode cX12_ages 49 = .ok (.getfield 7, 3) := by decide +kernel
theorem dX12_ages_52 : decode cX12_ages 52 = .ok (.bipush 7, 2) := by decide +kernel
theorem dX12_ages_54 : decode cX12_ages 54 = .ok (.iaload, 1) := by decide +kernel
theorem dX12_ages_55 : decode cX12_ages 55 = .ok (.istore 4, 2) := by decide +kernel
theorem dX12_ages_57 : decode cX12_ages 57 = .ok (.aload_n 0, 1) := by decide +kernel
theorem dX12_ages_58 : decode cX12_ages 58 = .ok (.invokevirtual 291, 3) := by decide +kernel
theorem dX12_ages_61 : decode cX12_ages 61 = .ok (.aload_n 0, 1) := by decide +kernel
theorem dX12_ages_62 : decode cX12_ages 62 = .ok (.iload 4, 2) := by decide +kernel
theorem dX12_ages_64 : decode cX12_ages 64 = .ok (.invokevirtual 361, 3) := by decide +kernel
theorem dX12_ages_67 : decode cX12_ages 67 = .ok (.iinc 3 1, 3) := by decide +kernel
theorem dX12_ages_70 : decode cX12_ages 70 = .ok (.goto (-27), 3) := by decide +kernel
theorem dX12_ages_73 : decode cX12_ages 73 = .ok (.aload_n 0, 1) := by decide +kernel
theorem dX12_ages_74 : decode cX12_ages 74 = .ok (.getfield 7, 3) := by decide +kernel
theorem dX12_ages_77 : decode cX12_ages 77 = .ok (.bipush 6, 2) := by decide +kernel
theorem dX12_ages_79 : decode cX12_ages 79 = .ok (.iaload, 1) := by decide +kernel
theorem dX12_ages_80 : decode cX12_ages 80 = .ok (.ireturn, 1) := by decide +kernel
theorem dX12_of_0 : decode cX12_of 0 = .ok (.aload_n 0, 1) := by decide +kernel
theorem dX12_of_1 : decode cX12_of 1 = .ok (.iload_n 1, 1) := by decide +kernel
theorem dX12_of_2 : decode cX12_of 2 = .ok (.invokevirtual 322, 3) := by decide +kernel
theorem dX12_of_5 : decode cX12_of 5 = .ok (.ifCond .ne 6, 3) := by decide +kernel
theorem dX12_of_8 : decode cX12_of 8 = .ok (.bipush (-2), 2) := by decide +kernel
theorem dX12_of_10 : decode cX12_of 10 = .ok (.ireturn, 1) := by decide +kernel
theorem dX12_of_11 : decode cX12_of 11 = .ok (.iload_n 2, 1) := by decide +kernel
theorem dX12_of_12 : decode cX12_of 12 = .ok (.ifCond .ne 15, 3) := by decide +kernel
theorem dX12_of_15 : decode cX12_of 15 = .ok (.aload_n 0, 1) := by decide +kernel
theorem dX12_of_16 : decode cX12_of 16 = .ok (.getfield 7, 3) := by decide +kernel
theorem dX12_of_19 : decode cX12_of 19 = .ok (.bipush 76, 2) := by decide +kernel
theorem dX12_of_21 : decode cX12_of 21 = .ok (.iload_n 1, 1) := by decide +kernel
theorem dX12_of_22 : decode cX12_of 22 = .ok (.iadd, 1) := by decide +kernel
theorem dX12_of_23 : decode cX12_of 23 = .ok (.iaload, 1) := by decide +kernel
theorem dX12_of_24 : decode cX12_of 24 = .ok (.goto 39, 3) := by decide +kernel
theorem dX12_of_27 : decode cX12_of 27 = .ok (.iload_n 2, 1) := by decide +kernel
theorem dX12_of_28 : decode cX12_of 28 = .ok (.iconst 1, 1) := by decide +kernel
theorem dX12_of_29 : decode cX12_of 29 = .ok (.if_icmp .ne 15, 3) := by decide +kernel
theorem dX12_of_32 : decode cX12_of 32 = .ok (.aload_n 0, 1) := by decide +kernel
theorem dX12_of_33 : decode cX12_of 33 = .ok (.getfield 7, 3) := by decide +kernel
theorem dX12_of_36 : decode cX12_of 36 = .ok (.bipush 83, 2) := by decide +kernel
theorem dX12_of_38 : decode cX12_of 38 = .ok (.iload_n 1, 1) := by decide +kernel
theorem dX12_of_39 : decode cX12_of 39 = .ok (.iadd, 1) := by decide +kernel
theorem dX12_of_40 : decode cX12_of 40 = .ok (.iaload, 1) := by decide +kernel
theorem dX12_of_41 : decode cX12_of 41 = .ok (.goto 22, 3) := by decide +kernel
theorem dX12_of_44 : decode cX12_of 44 = .ok (.iload_n 2, 1) := by decide +kernel
theorem dX12_of_45 : decode cX12_of 45 = .ok (.iconst 2, 1) := by decide +kernel
theorem dX12_of_46 : decode cX12_of 46 = .ok (.if_icmp .ne 15, 3) := by decide +kernel
theorem dX12_of_49 : decode cX12_of 49 = .ok (.aload_n 0, 1) := by decide +kernel
theorem dX12_of_50 : decode cX12_of 50 = .ok (.getfield 7, 3) := by decide +kernel
theorem dX12_of_53 : decode cX12_of 53 = .ok (.bipush 69, 2) := by decide +kernel
theorem dX12_of_55 : decode cX12_of 55 = .ok (.iload_n 1, 1) := by decide +kernel
theorem dX12_of_56 : decode cX12_of 56 = .ok (.iadd, 1) := by decide +kernel
theorem dX12_of_57 : decode cX12_of 57 = .ok (.iaload, 1) := by decide +kernel
theorem dX12_of_58 : decode cX12_of 58 = .ok (.goto 5, 3) := by decide +kernel
theorem dX12_of_61 : decode cX12_of 61 = .ok (.bipush (-2), 2) := by decide +kernel
theorem dX12_of_63 : decode cX12_of 63 = .ok (.ireturn, 1) := by decide +kernel
theorem dX12_ofBar_0 : decode cX12_ofBar 0 = .ok (.iload_n 1, 1) := by decide +kernel
theorem dX12_ofBar_1 : decode cX12_ofBar 1 = .ok (.invokestatic 73, 3) := by decide +kernel
theorem dX12_ofBar_4 : decode cX12_ofBar 4 = .ok (.ifCond .ne 5, 3) := by decide +kernel
theorem dX12_ofBar_7 : decode cX12_ofBar 7 = .ok (.iconst (-1), 1) := by decide +kernel
theorem dX12_ofBar_8 : decode cX12_ofBar 8 = .ok (.ireturn, 1) := by decide +kernel
theorem dX12_ofBar_9 : decode cX12_ofBar 9 = .ok (.iload_n 2, 1) := by decide +kernel
theorem dX12_ofBar_10 : decode cX12_ofBar 10 = .ok (.ifCond .ne 15, 3) := by decide +kernel
theorem dX12_ofBar_13 : decode cX12_ofBar 13 = .ok (.aload_n 0, 1) := by decide +kernel
theorem dX12_ofBar_14 : decode cX12_ofBar 14 = .ok (.getfield 7, 3) := by decide +kernel
theorem dX12_ofBar_17 : decode cX12_ofBar 17 = .ok (.bipush 9, 2) := by decide +kernel
theorem dX12_ofBar_19 : decode cX12_ofBar 19 = .ok (.iload_n 1, 1) := by decide +kernel
theorem dX12_ofBar_20 : decode cX12_ofBar 20 = .ok (.iadd, 1) := by decide +kernel
theorem dX12_ofBar_21 : decode cX12_ofBar 21 = .ok (.iaload, 1) := by decide +kernel
theorem dX12_ofBar_22 : decode cX12_ofBar 22 = .ok (.goto 34, 3) := by decide +kernel
theorem dX12_ofBar_25 : decode cX12_ofBar 25 = .ok (.iload_n 2, 1) := by decide +kernel
theorem dX12_ofBar_26 : decode cX12_ofBar 26 = .ok (.iconst 1, 1) := by decide +kernel
theorem dX12_ofBar_27 : decode cX12_ofBar 27 = .ok (.if_icmp .ne 15, 3) := by decide +kernel
theorem dX12_ofBar_30 : decode cX12_ofBar 30 = .ok (.aload_n 0, 1) := by decide +kernel
theorem dX12_ofBar_31 : decode cX12_ofBar 31 = .ok (.getfield 7, 3) := by decide +kernel
theorem dX12_ofBar_34 : decode cX12_ofBar 34 = .ok (.bipush 39, 2) := by decide +kernel
theorem dX12_ofBar_36 : decode cX12_ofBar 36 = .ok (.iload_n 1, 1) := by decide +kernel
theorem dX12_ofBar_37 : decode cX12_ofBar 37 = .ok (.iadd, 1) := by decide +kernel
theorem dX12_ofBar_38 : decode cX12_ofBar 38 = .ok (.iaload, 1) := by decide +kernel
theorem dX12_ofBar_39 : decode cX12_ofBar 39 = .ok (.goto 17, 3) := by decide +kernel
theorem dX12_ofBar_42 : decode cX12_ofBar 42 = .ok (.iload_n 2, 1) := by decide +kernel
theorem dX12_ofBar_43 : decode cX12_ofBar 43 = .ok (.iconst 2, 1) := by decide +kernel
theorem dX12_ofBar_44 : decode cX12_ofBar 44 = .ok (.if_icmp .ne 11, 3) := by decide +kernel
theorem dX12_ofBar_47 : decode cX12_ofBar 47 = .ok (.aload_n 0, 1) := by decide +kernel
theorem dX12_ofBar_48 : decode cX12_ofBar 48 = .ok (.iload_n 1, 1) := by decide +kernel
theorem dX12_ofBar_49 : decode cX12_ofBar 49 = .ok (.invokevirtual 319, 3) := by decide +kernel
theorem dX12_ofBar_52 : decode cX12_ofBar 52 = .ok (.goto 4, 3) := by decide +kernel
theorem dX12_ofBar_55 : decode cX12_ofBar 55 = .ok (.iconst (-1), 1) := by decide +kernel
theorem dX12_ofBar_56 : decode cX12_ofBar 56 = .ok (.ireturn, 1) := by decide +kernel
theorem dX12_catches_0 : decode cX12_catches 0 = .ok (.aload_n 0, 1) := by decide +kernel
theorem dX12_catches_1 : decode cX12_catches 1 = .ok (.iload_n 1, 1) := by decide +kernel
theorem dX12_catches_2 : decode cX12_catches 2 = .ok (.invokevirtual 322, 3) := by decide +kernel
theorem dX12_catches_5 : decode cX12_catches 5 = .ok (.ifCond .eq 36, 3) := by decide +kernel
theorem dX12_catches_8 : decode cX12_catches 8 = .ok (.iload_n 2, 1) := by decide +kernel
theorem dX12_catches_9 : decode cX12_catches 9 = .ok (.invokestatic 73, 3) := by decide +kernel
theorem dX12_catches_12 : decode cX12_catches 12 = .ok (.ifCond .eq 29, 3) := by decide +kernel
theorem dX12_catches_15 : decode cX12_catches 15 = .ok (.iload_n 3, 1) := by decide +kernel
theorem dX12_catches_16 : decode cX12_catches 16 = .ok (.iconst 1, 1) := by decide +kernel
theorem dX12_catches_17 : decode cX12_catches 17 = .ok (.bipush 60, 2) := by decide +kernel
theorem dX12_catches_19 : decode cX12_catches 19 = .ok (.invokestatic 69, 3) := by decide +kernel
theorem dX12_catches_22 : decode cX12_catches 22 = .ok (.ifCond .eq 19, 3) := by decide +kernel
theorem dX12_catches_25 : decode cX12_catches 25 = .ok (.aload_n 0, 1) := by decide +kernel
theorem dX12_catches_26 : decode cX12_catches 26 = .ok (.aload_n 0, 1) := by decide +kernel
theorem dX12_catches_27 : decode cX12_catches 27 = .ok (.getfield 7, 3) := by decide +kernel
theorem dX12_catches_30 : decode cX12_catches 30 = .ok (.iconst 2, 1) := by decide +kernel
theorem dX12_catches_31 : decode cX12_catches 31 = .ok (.iaload, 1) := by decide +kernel
theorem dX12_catches_32 : decode cX12_catches 32 = .ok (.iload_n 1, 1) := by decide +kernel
theorem dX12_catches_33 : decode cX12_catches 33 = .ok (.iload_n 2, 1) := by decide +kernel
theorem dX12_catches_34 : decode cX12_catches 34 = .ok (.iload_n 3, 1) := by decide +kernel
theorem dX12_catches_35 : decode cX12_catches 35 = .ok (.invokevirtual 303, 3) := by decide +kernel
theorem dX12_catches_38 : decode cX12_catches 38 = .ok (.goto 4, 3) := by decide +kernel
theorem dX12_catches_41 : decode cX12_catches 41 = .ok (.iconst (-1), 1) := by decide +kernel
theorem dX12_catches_42 : decode cX12_catches 42 = .ok (.ireturn, 1) := by decide +kernel
theorem dX12_barsFrom_0 : decode cX12_barsFrom 0 = .ok (.iconst 0, 1) := by decide +kernel
theorem dX12_barsFrom_1 : decode cX12_barsFrom 1 = .ok (.istore_n 3, 1) := by decide +kernel
theorem dX12_barsFrom_2 : decode cX12_barsFrom 2 = .ok (.iconst 0, 1) := by decide +kernel
theorem dX12_barsFrom_3 : decode cX12_barsFrom 3 = .ok (.istore 4, 2) := by decide +kernel
theorem dX12_barsFrom_5 : decode cX12_barsFrom 5 = .ok (.iload 4, 2) := by decide +kernel
theorem dX12_barsFrom_7 : decode cX12_barsFrom 7 = .ok (.iload_n 2, 1) := by decide +kernel
theorem dX12_barsFrom_8 : decode cX12_barsFrom 8 = .ok (.if_icmp .ge 31, 3) := by decide +kernel
theorem dX12_barsFrom_11 : decode cX12_barsFrom 11 = .ok (.iload_n 3, 1) := by decide +kernel
theorem dX12_barsFrom_12 : decode cX12_barsFrom 12 = .ok (.aload_n 0, 1) := by decide +kernel
theorem dX12_barsFrom_13 : decode cX12_barsFrom 13 = .ok (.iload_n 1, 1) := by decide +kernel
theorem dX12_barsFrom_14 : decode cX12_barsFrom 14 = .ok (.iload 4, 2) := by decide +kernel
theorem dX12_barsFrom_16 : decode cX12_barsFrom 16 = .ok (.iadd, 1) := by decide +kernel
theorem dX12_barsFrom_17 : decode cX12_barsFrom 17 = .ok (.bipush 30, 2) := by decide +kernel
theorem dX12_barsFrom_19 : decode cX12_barsFrom 19 = .ok (.irem, 1) := by decide +kernel
theorem dX12_barsFrom_20 : decode cX12_barsFrom 20 = .ok (.invokevirtual 300, 3) := by decide +kernel
theorem dX12_barsFrom_23 : decode cX12_barsFrom 23 = .ok (.ifCond .eq 7, 3) := by decide +kernel
theorem dX12_barsFrom_26 : decode cX12_barsFrom 26 = .ok (.iconst 1, 1) := by decide +kernel
theorem dX12_barsFrom_27 : decode cX12_barsFrom 27 = .ok (.goto 4, 3) := by decide +kernel
theorem dX12_barsFrom_30 : decode cX12_barsFrom 30 = .ok (.iconst 0, 1) := by decide +kernel
theorem dX12_barsFrom_31 : decode cX12_barsFrom 31 = .ok (.iadd, 1) := by decide +kernel
theorem dX12_barsFrom_32 : decode cX12_barsFrom 32 = .ok (.istore_n 3, 1) := by decide +kernel
theorem dX12_barsFrom_33 : decode cX12_barsFrom 33 = .ok (.iinc 4 1, 3) := by decide +kernel
theorem dX12_barsFrom_36 : decode cX12_barsFrom 36 = .ok (.goto (-31), 3) := by decide +kernel
theorem dX12_barsFrom_39 : decode cX12_barsFrom 39 = .ok (.iload_n 3, 1) := by decide +kernel
theorem dX12_barsFrom_40 : decode cX12_barsFrom 40 = .ok (.ireturn, 1) := by decide +kernel
theorem dX12_numberless_0 : decode cX12_numberless 0 = .ok (.iconst 0, 1) := by decide +kernel
theorem dX12_numberless_1 : decode cX12_numberless 1 = .ok (.istore_n 1, 1) := by decide +kernel
theorem dX12_numberless_2 : decode cX12_numberless 2 = .ok (.iconst 0, 1) := by decide +kernel
theorem dX12_numberless_3 : decode cX12_numberless 3 = .ok (.istore_n 2, 1) := by decide +kernel
theorem dX12_numberless_4 : decode cX12_numberless 4 = .ok (.iload_n 2, 1) := by decide +kernel
theorem dX12_numberless_5 : decode cX12_numberless 5 = .ok (.aload_n 0, 1) := by decide +kernel
theorem dX12_numberless_6 : decode cX12_numberless 6 = .ok (.getfield 7, 3) := by decide +kernel
theorem dX12_numberless_9 : decode cX12_numberless 9 = .ok (.iconst 0, 1) := by decide +kernel
theorem dX12_numberless_10 : decode cX12_numberless 10 = .ok (.iaload, 1) := by decide +kernel
theorem dX12_numberless_11 : decode cX12_numberless 11 = .ok (.if_icmp .ge 32, 3) := by decide +kernel
theorem dX12_numberless_14 : decode cX12_numberless 14 = .ok (.iload_n 1, 1) := by decide +kernel
theorem dX12_numberless_15 : decode cX12_numberless 15 = .ok (.aload_n 0, 1) := by decide +kernel
theorem dX12_numberless_16 : decode cX12_numberless 16 = .ok (.getfield 7, 3) := by decide +kernel
theorem dX12_numberless_19 : decode cX12_numberless 19 = .ok (.bipush 69, 2) := by decide +kernel
theorem dX12_numberless_21 : decode cX12_numberless 21 = .ok (.iload_n 2, 1) := by decide +kernel
theorem dX12_numberless_22 : decode cX12_numberless 22 = .ok (.iadd, 1) := by decide +kernel
theorem dX12_numberless_23 : decode cX12_numberless 23 = .ok (.iaload, 1) := by decide +kernel
theorem dX12_numberless_24 : decode cX12_numberless 24 = .ok (.iconst (-1), 1) := by decide +kernel
theorem dX12_numberless_25 : decode cX12_numberless 25 = .ok (.if_icmp .ne 9, 3) := by decide +kernel
theorem dX12_numberless_28 : decode cX12_numberless 28 = .ok (.iconst 1, 1) := by decide +kernel
theorem dX12_numberless_29 : decode cX12_numberless 29 = .ok (.iload_n 2, 1) := by decide +kernel
theorem dX12_numberless_30 : decode cX12_numberless 30 = .ok (.ishl, 1) := by decide +kernel
theorem dX12_numberless_31 : decode cX12_numberless 31 = .ok (.goto 4, 3) := by decide +kernel
theorem dX12_numberless_34 : decode cX12_numberless 34 = .ok (.iconst 0, 1) := by decide +kernel
theorem dX12_numberless_35 : decode cX12_numberless 35 = .ok (.ior, 1) := by decide +kernel
theorem dX12_numberless_36 : decode cX12_numberless 36 = .ok (.istore_n 1, 1) := by decide +kernel
theorem dX12_numberless_37 : decode cX12_numberless 37 = .ok (.iinc 2 1, 3) := by decide +kernel
theorem dX12_numberless_40 : decode cX12_numberless 40 = .ok (.goto (-36), 3) := by decide +kernel
theorem dX12_numberless_43 : decode cX12_numberless 43 = .ok (.iload_n 1, 1) := by decide +kernel
theorem dX12_numberless_44 : decode cX12_numberless 44 = .ok (.ireturn, 1) := by decide +kernel
theorem dX12_is_0 : decode cX12_is 0 = .ok (.iload_n 1, 1) := by decide +kernel
theorem dX12_is_1 : decode cX12_is 1 = .ok (.ifCond .ne 13, 3) := by decide +kernel
theorem dX12_is_4 : decode cX12_is 4 = .ok (.aload_n 0, 1) := by decide +kernel
theorem dX12_is_5 : decode cX12_is 5 = .ok (.getfield 7, 3) := by decide +kernel
theorem dX12_is_8 : decode cX12_is 8 = .ok (.bipush 6, 2) := by decide +kernel
theorem dX12_is_10 : decode cX12_is 10 = .ok (.iaload, 1) := by decide +kernel
theorem dX12_is_11 : decode cX12_is 11 = .ok (.goto 47, 3) := by decide +kernel
theorem dX12_is_14 : decode cX12_is 14 = .ok (.iload_n 1, 1) := by decide +kernel
theorem dX12_is_15 : decode cX12_is 15 = .ok (.iconst 1, 1) := by decide +kernel
theorem dX12_is_16 : decode cX12_is 16 = .ok (.if_icmp .ne 13, 3) := by decide +kernel
theorem dX12_is_19 : decode cX12_is 19 = .ok (.aload_n 0, 1) := by decide +kernel
theorem dX12_is_20 : decode cX12_is 20 = .ok (.getfield 7, 3) := by decide +kernel
theorem dX12_is_23 : decode cX12_is 23 = .ok (.bipush 7, 2) := by decide +kernel
theorem dX12_is_25 : decode cX12_is 25 = .ok (.iaload, 1) := by decide +kernel
theorem dX12_is_26 : decode cX12_is 26 = .ok (.goto 32, 3) := by decide +kernel
theorem dX12_is_29 : decode cX12_is 29 = .ok (.iload_n 1, 1) := by decide +kernel
theorem dX12_is_30 : decode cX12_is 30 = .ok (.iconst 2, 1) := by decide +kernel
theorem dX12_is_31 : decode cX12_is 31 = .ok (.if_icmp .ne 13, 3) := by decide +kernel
theorem dX12_is_34 : decode cX12_is 34 = .ok (.aload_n 0, 1) := by decide +kernel
theorem dX12_is_35 : decode cX12_is 35 = .ok (.iconst 0, 1) := by decide +kernel
theorem dX12_is_36 : decode cX12_is 36 = .ok (.bipush 30, 2) := by decide +kernel
theorem dX12_is_38 : decode cX12_is 38 = .ok (.invokevirtual 364, 3) := by decide +kernel
theorem dX12_is_41 : decode cX12_is 41 = .ok (.goto 17, 3) := by decide +kernel
theorem dX12_is_44 : decode cX12_is 44 = .ok (.iload_n 1, 1) := by decide +kernel
theorem dX12_is_45 : decode cX12_is 45 = .ok (.iconst 3, 1) := by decide +kernel
theorem dX12_is_46 : decode cX12_is 46 = .ok (.if_icmp .ne 10, 3) := by decide +kernel
theorem dX12_is_49 : decode cX12_is 49 = .ok (.aload_n 0, 1) := by decide +kernel
theorem dX12_is_50 : decode cX12_is 50 = .ok (.invokevirtual 367, 3) := by decide +kernel
theorem dX12_is_53 : decode cX12_is 53 = .ok (.goto 5, 3) := by decide +kernel
theorem dX12_is_56 : decode cX12_is 56 = .ok (.bipush (-2), 2) := by decide +kernel
theorem dX12_is_58 : decode cX12_is 58 = .ok (.ireturn, 1) := by decide +kernel
theorem dX12_entry_0 : decode cX12_entry 0 = .ok (.aload_n 0, 1) := by decide +kernel
theorem dX12_entry_1 : decode cX12_entry 1 = .ok (.getfield 7, 3) := by decide +kernel
theorem dX12_entry_4 : decode cX12_entry 4 = .ok (.sipush 3175, 3) := by decide +kernel
theorem dX12_entry_7 : decode cX12_entry 7 = .ok (.iload_n 1, 1) := by decide +kernel
theorem dX12_entry_8 : decode cX12_entry 8 = .ok (.iadd, 1) := by decide +kernel
theorem dX12_entry_9 : decode cX12_entry 9 = .ok (.iaload, 1) := by decide +kernel
theorem dX12_entry_10 : decode cX12_entry 10 = .ok (.istore_n 3, 1) := by decide +kernel
theorem dX12_entry_11 : decode cX12_entry 11 = .ok (.iload_n 2, 1) := by decide +kernel
theorem dX12_entry_12 : decode cX12_entry 12 = .ok (.ifCond .ne 11, 3) := by decide +kernel
theorem dX12_entry_15 : decode cX12_entry 15 = .ok (.iload_n 3, 1) := by decide +kernel
theorem dX12_entry_16 : decode cX12_entry 16 = .ok (.sipush 12810, 3) := by decide +kernel
theorem dX12_entry_19 : decode cX12_entry 19 = .ok (.idiv, 1) := by decide +kernel
theorem dX12_entry_20 : decode cX12_entry 20 = .ok (.goto 38, 3) := by decide +kernel
theorem dX12_entry_23 : decode cX12_entry 23 = .ok (.iload_n 2, 1) := by decide +kernel
theorem dX12_entry_24 : decode cX12_entry 24 = .ok (.iconst 1, 1) := by decide +kernel
theorem dX12_entry_25 : decode cX12_entry 25 = .ok (.if_icmp .ne 14, 3) := by decide +kernel
theorem dX12_entry_28 : decode cX12_entry 28 = .ok (.iload_n 3, 1) := by decide +kernel
theorem dX12_entry_29 : decode cX12_entry 29 = .ok (.sipush 1830, 3) := by decide +kernel
theorem dX12_entry_32 : decode cX12_entry 32 = .ok (.idiv, 1) := by decide +kernel
theorem dX12_entry_33 : decode cX12_entry 33 = .ok (.bipush 7, 2) := by decide +kernel
theorem dX12_entry_35 : decode cX12_entry 35 = .ok (.irem, 1) := by decide +kernel
theorem dX12_entry_36 : decode cX12_entry 36 = .ok (.goto 22, 3) := by decide +kernel
theorem dX12_entry_39 : decode cX12_entry 39 = .ok (.iload_n 2, 1) := by decide +kernel
theorem dX12_entry_40 : decode cX12_entry 40 = .ok (.iconst 2, 1) := by decide +kernel
theorem dX12_entry_41 : decode cX12_entry 41 = .ok (.if_icmp .ne 13, 3) := by decide +kernel
theorem dX12_entry_44 : decode cX12_entry 44 = .ok (.iload_n 3, 1) := by decide +kernel
theorem dX12_entry_45 : decode cX12_entry 45 = .ok (.bipush 61, 2) := by decide +kernel
theorem dX12_entry_47 : decode cX12_entry 47 = .ok (.idiv, 1) := by decide +kernel
theorem dX12_entry_48 : decode cX12_entry 48 = .ok (.bipush 30, 2) := by decide +kernel
theorem dX12_entry_50 : decode cX12_entry 50 = .ok (.irem, 1) := by decide +kernel
theorem dX12_entry_51 : decode cX12_entry 51 = .ok (.goto 7, 3) := by decide +kernel
theorem dX12_entry_54 : decode cX12_entry 54 = .ok (.iload_n 3, 1) := by decide +kernel
theorem dX12_entry_55 : decode cX12_entry 55 = .ok (.bipush 61, 2) := by decide +kernel
theorem dX12_entry_57 : decode cX12_entry 57 = .ok (.irem, 1) := by decide +kernel
theorem dX12_entry_58 : decode cX12_entry 58 = .ok (.ireturn, 1) := by decide +kernel
theorem dX12_book_0 : decode cX12_book 0 = .ok (.iload_n 1, 1) := by decide +kernel
theorem dX12_book_1 : decode cX12_book 1 = .ok (.iconst (-1), 1) := by decide +kernel
theorem dX12_book_2 : decode cX12_book 2 = .ok (.if_icmp .ne 11, 3) := by decide +kernel
theorem dX12_book_5 : decode cX12_book 5 = .ok (.aload_n 0, 1) := by decide +kernel
theorem dX12_book_6 : decode cX12_book 6 = .ok (.getfield 7, 3) := by decide +kernel
theorem dX12_book_9 : decode cX12_book 9 = .ok (.bipush 8, 2) := by decide +kernel
theorem dX12_book_11 : decode cX12_book 11 = .ok (.iaload, 1) := by decide +kernel
theorem dX12_book_12 : decode cX12_book 12 = .ok (.ireturn, 1) := by decide +kernel
theorem dX12_book_13 : decode cX12_book 13 = .ok (.iload_n 1, 1) := by decide +kernel
theorem dX12_book_14 : decode cX12_book 14 = .ok (.iconst 0, 1) := by decide +kernel
theorem dX12_book_15 : decode cX12_book 15 = .ok (.aload_n 0, 1) := by decide +kernel
theorem dX12_book_16 : decode cX12_book 16 = .ok (.getfield 7, 3) := by decide +kernel
theorem dX12_book_19 : decode cX12_book 19 = .ok (.bipush 8, 2) := by decide +kernel
theorem dX12_book_21 : decode cX12_book 21 = .ok (.iaload, 1) := by decide +kernel
theorem dX12_book_22 : decode cX12_book 22 = .ok (.iconst 1, 1) := by decide +kernel
theorem dX12_book_23 : decode cX12_book 23 = .ok (.isub, 1) := by decide +kernel
theorem dX12_book_24 : decode cX12_book 24 = .ok (.invokestatic 69, 3) := by decide +kernel
theorem dX12_book_27 : decode cX12_book 27 = .ok (.ifCond .eq 21, 3) := by decide +kernel
theorem dX12_book_30 : decode cX12_book 30 = .ok (.iload_n 2, 1) := by decide +kernel
theorem dX12_book_31 : decode cX12_book 31 = .ok (.iconst 0, 1) := by decide +kernel
theorem dX12_book_32 : decode cX12_book 32 = .ok (.iconst 3, 1) := by decide +kernel
theorem dX12_book_33 : decode cX12_book 33 = .ok (.invokestatic 69, 3) := by decide +kernel
theorem dX12_book_36 : decode cX12_book 36 = .ok (.ifCond .eq 12, 3) := by decide +kernel
theorem dX12_book_39 : decode cX12_book 39 = .ok (.aload_n 0, 1) := by decide +kernel
theorem dX12_book_40 : decode cX12_book 40 = .ok (.iload_n 1, 1) := by decide +kernel
theorem dX12_book_41 : decode cX12_book 41 = .ok (.iload_n 2, 1) := by decide +kernel
theorem dX12_book_42 : decode cX12_book 42 = .ok (.invokevirtual 370, 3) := by decide +kernel
theorem dX12_book_45 : decode cX12_book 45 = .ok (.goto 5, 3) := by decide +kernel
theorem dX12_book_48 : decode cX12_book 48 = .ok (.bipush (-2), 2) := by decide +kernel
theorem dX12_book_50 : decode cX12_book 50 = .ok (.ireturn, 1) := by decide +kernel
theorem dX12_ledger_0 : decode cX12_ledger 0 = .ok (.iload_n 1, 1) := by decide +kernel
theorem dX12_ledger_1 : decode cX12_ledger 1 = .ok (.iconst (-1), 1) := by decide +kernel
theorem dX12_ledger_2 : decode cX12_ledger 2 = .ok (.if_icmp .eq 14, 3) := by decide +kernel
theorem dX12_ledger_5 : decode cX12_ledger 5 = .ok (.aload_n 0, 1) := by decide +kernel
theorem dX12_ledger_6 : decode cX12_ledger 6 = .ok (.iload_n 1, 1) := by decide +kernel
theorem dX12_ledger_7 : decode cX12_ledger 7 = .ok (.invokevirtual 322, 3) := by decide +kernel
theorem dX12_ledger_10 : decode cX12_ledger 10 = .ok (.ifCond .ne 6, 3) := by decide +kernel
theorem dX12_ledger_13 : decode cX12_ledger 13 = .ok (.bipush (-2), 2) := by decide +kernel
theorem dX12_ledger_15 : decode cX12_ledger 15 = .ok (.ireturn, 1) := by decide +kernel
theorem dX12_ledger_16 : decode cX12_ledger 16 = .ok (.iconst 0, 1) := by decide +kernel
theorem dX12_ledger_17 : decode cX12_ledger 17 = .ok (.istore_n 2, 1) := by decide +kernel
theorem dX12_ledger_18 : decode cX12_ledger 18 = .ok (.iconst 0, 1) := by decide +kernel
theorem dX12_ledger_19 : decode cX12_ledger 19 = .ok (.istore_n 3, 1) := by decide +kernel
theorem dX12_ledger_20 : decode cX12_ledger 20 = .ok (.iload_n 3, 1) := by decide +kernel
theorem dX12_ledger_21 : decode cX12_ledger 21 = .ok (.aload_n 0, 1) := by decide +kernel
theorem dX12_ledger_22 : decode cX12_ledger 22 = .ok (.getfield 7, 3) := by decide +kernel
theorem dX12_ledger_25 : decode cX12_ledger 25 = .ok (.bipush 8, 2) := by decide +kernel
theorem dX12_ledger_27 : decode cX12_ledger 27 = .ok (.iaload, 1) := by decide +kernel
theorem dX12_ledger_28 : decode cX12_ledger 28 = .ok (.if_icmp .ge 37, 3) := by decide +kernel
theorem dX12_ledger_31 : decode cX12_ledger 31 = .ok (.iload_n 2, 1) := by decide +kernel
theorem dX12_ledger_32 : decode cX12_ledger 32 = .ok (.iload_n 1, 1) := by decide +kernel
theorem dX12_ledger_33 : decode cX12_ledger 33 = .ok (.iconst (-1), 1) := by decide +kernel
theorem dX12_ledger_34 : decode cX12_ledger 34 = .ok (.if_icmp .eq 13, 3) := by decide +kernel
theorem dX12_ledger_37 : decode cX12_ledger 37 = .ok (.aload_n 0, 1) := by decide +kernel
theorem dX12_ledger_38 : decode cX12_ledger 38 = .ok (.iload_n 3, 1) := by decide +kernel
theorem dX12_ledger_39 : decode cX12_ledger 39 = .ok (.iconst 1, 1) := by decide +kernel
theorem dX12_ledger_40 : decode cX12_ledger 40 = .ok (.invokevirtual 370, 3) := by decide +kernel
theorem dX12_ledger_43 : decode cX12_ledger 43 = .ok (.iload_n 1, 1) := by decide +kernel
theorem dX12_ledger_44 : decode cX12_ledger 44 = .ok (.if_icmp .ne 12, 3) := by decide +kernel
theorem dX12_ledger_47 : decode cX12_ledger 47 = .ok (.aload_n 0, 1) := by decide +kernel
theorem dX12_ledger_48 : decode cX12_ledger 48 = .ok (.iload_n 3, 1) := by decide +kernel
theorem dX12_ledger_49 : decode cX12_ledger 49 = .ok (.iconst 3, 1) := by decide +kernel
theorem dX12_ledger_50 : decode cX12_ledger 50 = .ok (.invokevirtual 370, 3) := by decide +kernel
theorem dX12_ledger_53 : decode cX12_ledger 53 = .ok (.goto 4, 3) := by decide +kernel
theorem dX12_ledger_56 : decode cX12_ledger 56 = .ok (.iconst 0, 1) := by decide +kernel
theorem dX12_ledger_57 : decode cX12_ledger 57 = .ok (.iadd, 1) := by decide +kernel
theorem dX12_ledger_58 : decode cX12_ledger 58 = .ok (.istore_n 2, 1) := by decide +kernel
theorem dX12_ledger_59 : decode cX12_ledger 59 = .ok (.iinc 3 1, 3) := by decide +kernel
theorem dX12_ledger_62 : decode cX12_ledger 62 = .ok (.goto (-42), 3) := by decide +kernel
theorem dX12_ledger_65 : decode cX12_ledger 65 = .ok (.iload_n 2, 1) := by decide +kernel
theorem dX12_ledger_66 : decode cX12_ledger 66 = .ok (.ireturn, 1) := by decide +kernel
theorem dX12_greatest_0 : decode cX12_greatest 0 = .ok (.iconst (-1), 1) := by decide +kernel
theorem dX12_greatest_1 : decode cX12_greatest 1 = .ok (.istore_n 1, 1) := by decide +kernel
theorem dX12_greatest_2 : decode cX12_greatest 2 = .ok (.iconst 0, 1) := by decide +kernel
theorem dX12_greatest_3 : decode cX12_greatest 3 = .ok (.istore_n 2, 1) := by decide +kernel
theorem dX12_greatest_4 : decode cX12_greatest 4 = .ok (.iload_n 2, 1) := by decide +kernel
theorem dX12_greatest_5 : decode cX12_greatest 5 = .ok (.aload_n 0, 1) := by decide +kernel
theorem dX12_greatest_6 : decode cX12_greatest 6 = .ok (.getfield 7, 3) := by decide +kernel
theorem dX12_greatest_9 : decode cX12_greatest 9 = .ok (.iconst 0, 1) := by decide +kernel
theorem dX12_greatest_10 : decode cX12_greatest 10 = .ok (.iaload, 1) := by decide +kernel
theorem dX12_greatest_11 : decode cX12_greatest 11 = .ok (.if_icmp .ge 50, 3) := by decide +kernel
theorem dX12_greatest_14 : decode cX12_greatest 14 = .ok (.aload_n 0, 1) := by decide +kernel
theorem dX12_greatest_15 : decode cX12_greatest 15 = .ok (.getfield 7, 3) := by decide +kernel
theorem dX12_greatest_18 : decode cX12_greatest 18 = .ok (.bipush 69, 2) := by decide +kernel
theorem dX12_greatest_20 : decode cX12_greatest 20 = .ok (.iload_n 2, 1) := by decide +kernel
theorem dX12_greatest_21 : decode cX12_greatest 21 = .ok (.iadd, 1) := by decide +kernel
theorem dX12_greatest_22 : decode cX12_greatest 22 = .ok (.iaload, 1) := by decide +kernel
theorem dX12_greatest_23 : decode cX12_greatest 23 = .ok (.iconst (-1), 1) := by decide +kernel
theorem dX12_greatest_24 : decode cX12_greatest 24 = .ok (.if_icmp .eq 31, 3) := by decide +kernel
theorem dX12_greatest_27 : decode cX12_greatest 27 = .ok (.iload_n 1, 1) := by decide +kernel
theorem dX12_greatest_28 : decode cX12_greatest 28 = .ok (.iconst (-1), 1) := by decide +kernel
theorem dX12_greatest_29 : decode cX12_greatest 29 = .ok (.if_icmp .eq 24, 3) := by decide +kernel
theorem dX12_greatest_32 : decode cX12_greatest 32 = .ok (.aload_n 0, 1) := by decide +kernel
theorem dX12_greatest_33 : decode cX12_greatest 33 = .ok (.getfield 7, 3) := by decide +kernel
theorem dX12_greatest_36 : decode cX12_greatest 36 = .ok (.bipush 69, 2) := by decide +kernel
theorem dX12_greatest_38 : decode cX12_greatest 38 = .ok (.iload_n 2, 1) := by decide +kernel
theorem dX12_greatest_39 : decode cX12_greatest 39 = .ok (.iadd, 1) := by decide +kernel
theorem dX12_greatest_40 : decode cX12_greatest 40 = .ok (.iaload, 1) := by decide +kernel
theorem dX12_greatest_41 : decode cX12_greatest 41 = .ok (.aload_n 0, 1) := by decide +kernel
theorem dX12_greatest_42 : decode cX12_greatest 42 = .ok (.getfield 7, 3) := by decide +kernel
theorem dX12_greatest_45 : decode cX12_greatest 45 = .ok (.bipush 69, 2) := by decide +kernel
theorem dX12_greatest_47 : decode cX12_greatest 47 = .ok (.iload_n 1, 1) := by decide +kernel
theorem dX12_greatest_48 : decode cX12_greatest 48 = .ok (.iadd, 1) := by decide +kernel
theorem dX12_greatest_49 : decode cX12_greatest 49 = .ok (.iaload, 1) := by decide +kernel
theorem dX12_greatest_50 : decode cX12_greatest 50 = .ok (.if_icmp .le 5, 3) := by decide +kernel
theorem dX12_greatest_53 : decode cX12_greatest 53 = .ok (.iload_n 2, 1) := by decide +kernel
theorem dX12_greatest_54 : decode cX12_greatest 54 = .ok (.istore_n 1, 1) := by decide +kernel
theorem dX12_greatest_55 : decode cX12_greatest 55 = .ok (.iinc 2 1, 3) := by decide +kernel
theorem dX12_greatest_58 : decode cX12_greatest 58 = .ok (.goto (-54), 3) := by decide +kernel
theorem dX12_greatest_61 : decode cX12_greatest 61 = .ok (.iload_n 1, 1) := by decide +kernel
theorem dX12_greatest_62 : decode cX12_greatest 62 = .ok (.ireturn, 1) := by decide +kernel
theorem dX12_twins_0 : decode cX12_twins 0 = .ok (.iconst 0, 1) := by decide +kernel
theorem dX12_twins_1 : decode cX12_twins 1 = .ok (.istore_n 1, 1) := by decide +kernel
theorem dX12_twins_2 : decode cX12_twins 2 = .ok (.iconst 0, 1) := by decide +kernel
theorem dX12_twins_3 : decode cX12_twins 3 = .ok (.istore_n 2, 1) := by decide +kernel
theorem dX12_twins_4 : decode cX12_twins 4 = .ok (.iload_n 2, 1) := by decide +kernel
theorem dX12_twins_5 : decode cX12_twins 5 = .ok (.aload_n 0, 1) := by decide +kernel
theorem dX12_twins_6 : decode cX12_twins 6 = .ok (.getfield 7, 3) := by decide +kernel
theorem dX12_twins_9 : decode cX12_twins 9 = .ok (.iconst 0, 1) := by decide +kernel
theorem dX12_twins_10 : decode cX12_twins 10 = .ok (.iaload, 1) := by decide +kernel
theorem dX12_twins_11 : decode cX12_twins 11 = .ok (.if_icmp .ge 71, 3) := by decide +kernel
theorem dX12_twins_14 : decode cX12_twins 14 = .ok (.iload_n 2, 1) := by decide +kernel
theorem dX12_twins_15 : decode cX12_twins 15 = .ok (.iconst 1, 1) := by decide +kernel
theorem dX12_twins_16 : decode cX12_twins 16 = .ok (.iadd, 1) := by decide +kernel
theorem dX12_twins_17 : decode cX12_twins 17 = .ok (.istore_n 3, 1) := by decide +kernel
theorem dX12_twins_18 : decode cX12_twins 18 = .ok (.iload_n 3, 1) := by decide +kernel
theorem dX12_twins_19 : decode cX12_twins 19 = .ok (.aload_n 0, 1) := by decide +kernel
theorem dX12_twins_20 : decode cX12_twins 20 = .ok (.getfield 7, 3) := by decide +kernel
theorem dX12_twins_23 : decode cX12_twins 23 = .ok (.iconst 0, 1) := by decide +kernel
theorem dX12_twins_24 : decode cX12_twins 24 = .ok (.iaload, 1) := by decide +kernel
theorem dX12_twins_25 : decode cX12_twins 25 = .ok (.if_icmp .ge 51, 3) := by decide +kernel
theorem dX12_twins_28 : decode cX12_twins 28 = .ok (.iload_n 1, 1) := by decide +kernel
theorem dX12_twins_29 : decode cX12_twins 29 = .ok (.aload_n 0, 1) := by decide +kernel
theorem dX12_twins_30 : decode cX12_twins 30 = .ok (.getfield 7, 3) := by decide +kernel
theorem dX12_twins_33 : decode cX12_twins 33 = .ok (.bipush 69, 2) := by decide +kernel
theorem dX12_twins_35 : decode cX12_twins 35 = .ok (.iload_n 2, 1) := by decide +kernel
theorem dX12_twins_36 : decode cX12_twins 36 = .ok (.iadd, 1) := by decide +kernel
theorem dX12_twins_37 : decode cX12_twins 37 = .ok (.iaload, 1) := by decide +kernel
theorem dX12_twins_38 : decode cX12_twins 38 = .ok (.iconst (-1), 1) := by decide +kernel
theorem dX12_twins_39 : decode cX12_twins 39 = .ok (.if_icmp .eq 28, 3) := by decide +kernel
theorem dX12_twins_42 : decode cX12_twins 42 = .ok (.aload_n 0, 1) := by decide +kernel
theorem dX12_twins_43 : decode cX12_twins 43 = .ok (.getfield 7, 3) := by decide +kernel
theorem dX12_twins_46 : decode cX12_twins 46 = .ok (.bipush 69, 2) := by decide +kernel
theorem dX12_twins_48 : decode cX12_twins 48 = .ok (.iload_n 2, 1) := by decide +kernel
theorem dX12_twins_49 : decode cX12_twins 49 = .ok (.iadd, 1) := by decide +kernel
theorem dX12_twins_50 : decode cX12_twins 50 = .ok (.iaload, 1) := by decide +kernel
theorem dX12_twins_51 : decode cX12_twins 51 = .ok (.aload_n 0, 1) := by decide +kernel
theorem dX12_twins_52 : decode cX12_twins 52 = .ok (.getfield 7, 3) := by decide +kernel
theorem dX12_twins_55 : decode cX12_twins 55 = .ok (.bipush 69, 2) := by decide +kernel
theorem dX12_twins_57 : decode cX12_twins 57 = .ok (.iload_n 3, 1) := by decide +kernel
theorem dX12_twins_58 : decode cX12_twins 58 = .ok (.iadd, 1) := by decide +kernel
theorem dX12_twins_59 : decode cX12_twins 59 = .ok (.iaload, 1) := by decide +kernel
theorem dX12_twins_60 : decode cX12_twins 60 = .ok (.if_icmp .ne 7, 3) := by decide +kernel
theorem dX12_twins_63 : decode cX12_twins 63 = .ok (.iconst 1, 1) := by decide +kernel
theorem dX12_twins_64 : decode cX12_twins 64 = .ok (.goto 4, 3) := by decide +kernel
theorem dX12_twins_67 : decode cX12_twins 67 = .ok (.iconst 0, 1) := by decide +kernel
theorem dX12_twins_68 : decode cX12_twins 68 = .ok (.iadd, 1) := by decide +kernel
theorem dX12_twins_69 : decode cX12_twins 69 = .ok (.istore_n 1, 1) := by decide +kernel
theorem dX12_twins_70 : decode cX12_twins 70 = .ok (.iinc 3 1, 3) := by decide +kernel
theorem dX12_twins_73 : decode cX12_twins 73 = .ok (.goto (-55), 3) := by decide +kernel
theorem dX12_twins_76 : decode cX12_twins 76 = .ok (.iinc 2 1, 3) := by decide +kernel
theorem dX12_twins_79 : decode cX12_twins 79 = .ok (.goto (-75), 3) := by decide +kernel
theorem dX12_twins_82 : decode cX12_twins 82 = .ok (.iload_n 1, 1) := by decide +kernel
theorem dX12_twins_83 : decode cX12_twins 83 = .ok (.ireturn, 1) := by decide +kernel
theorem dX12_odd_0 : decode cX12_odd 0 = .ok (.iconst 0, 1) := by decide +kernel
theorem dX12_odd_1 : decode cX12_odd 1 = .ok (.istore_n 1, 1) := by decide +kernel
theorem dX12_odd_2 : decode cX12_odd 2 = .ok (.iconst 0, 1) := by decide +kernel
theorem dX12_odd_3 : decode cX12_odd 3 = .ok (.istore_n 2, 1) := by decide +kernel
theorem dX12_odd_4 : decode cX12_odd 4 = .ok (.iload_n 2, 1) := by decide +kernel
theorem dX12_odd_5 : decode cX12_odd 5 = .ok (.aload_n 0, 1) := by decide +kernel
theorem dX12_odd_6 : decode cX12_odd 6 = .ok (.getfield 7, 3) := by decide +kernel
theorem dX12_odd_9 : decode cX12_odd 9 = .ok (.iconst 0, 1) := by decide +kernel
theorem dX12_odd_10 : decode cX12_odd 10 = .ok (.iaload, 1) := by decide +kernel
theorem dX12_odd_11 : decode cX12_odd 11 = .ok (.if_icmp .ge 47, 3) := by decide +kernel
theorem dX12_odd_14 : decode cX12_odd 14 = .ok (.iload_n 1, 1) := by decide +kernel
theorem dX12_odd_15 : decode cX12_odd 15 = .ok (.aload_n 0, 1) := by decide +kernel
theorem dX12_odd_16 : decode cX12_odd 16 = .ok (.getfield 7, 3) := by decide +kernel
theorem dX12_odd_19 : decode cX12_odd 19 = .ok (.bipush 69, 2) := by decide +kernel
theorem dX12_odd_21 : decode cX12_odd 21 = .ok (.iload_n 2, 1) := by decide +kernel
theorem dX12_odd_22 : decode cX12_odd 22 = .ok (.iadd, 1) := by decide +kernel
theorem dX12_odd_23 : decode cX12_odd 23 = .ok (.iaload, 1) := by decide +kernel
theorem dX12_odd_24 : decode cX12_odd 24 = .ok (.iconst (-1), 1) := by decide +kernel
theorem dX12_odd_25 : decode cX12_odd 25 = .ok (.if_icmp .eq 24, 3) := by decide +kernel
theorem dX12_odd_28 : decode cX12_odd 28 = .ok (.aload_n 0, 1) := by decide +kernel
theorem dX12_odd_29 : decode cX12_odd 29 = .ok (.getfield 7, 3) := by decide +kernel
theorem dX12_odd_32 : decode cX12_odd 32 = .ok (.bipush 69, 2) := by decide +kernel
theorem dX12_odd_34 : decode cX12_odd 34 = .ok (.iload_n 2, 1) := by decide +kernel
theorem dX12_odd_35 : decode cX12_odd 35 = .ok (.iadd, 1) := by decide +kernel
theorem dX12_odd_36 : decode cX12_odd 36 = .ok (.iaload, 1) := by decide +kernel
theorem dX12_odd_37 : decode cX12_odd 37 = .ok (.iconst 2, 1) := by decide +kernel
theorem dX12_odd_38 : decode cX12_odd 38 = .ok (.irem, 1) := by decide +kernel
theorem dX12_odd_39 : decode cX12_odd 39 = .ok (.iconst 1, 1) := by decide +kernel
theorem dX12_odd_40 : decode cX12_odd 40 = .ok (.if_icmp .ne 9, 3) := by decide +kernel
theorem dX12_odd_43 : decode cX12_odd 43 = .ok (.iconst 1, 1) := by decide +kernel
theorem dX12_odd_44 : decode cX12_odd 44 = .ok (.iload_n 2, 1) := by decide +kernel
theorem dX12_odd_45 : decode cX12_odd 45 = .ok (.ishl, 1) := by decide +kernel
theorem dX12_odd_46 : decode cX12_odd 46 = .ok (.goto 4, 3) := by decide +kernel
theorem dX12_odd_49 : decode cX12_odd 49 = .ok (.iconst 0, 1) := by decide +kernel
theorem dX12_odd_50 : decode cX12_odd 50 = .ok (.ior, 1) := by decide +kernel
theorem dX12_odd_51 : decode cX12_odd 51 = .ok (.istore_n 1, 1) := by decide +kernel
theorem dX12_odd_52 : decode cX12_odd 52 = .ok (.iinc 2 1, 3) := by decide +kernel
theorem dX12_odd_55 : decode cX12_odd 55 = .ok (.goto (-51), 3) := by decide +kernel
theorem dX12_odd_58 : decode cX12_odd 58 = .ok (.iload_n 1, 1) := by decide +kernel
theorem dX12_odd_59 : decode cX12_odd 59 = .ok (.ireturn, 1) := by decide +kernel
theorem dX12_thickest_0 : decode cX12_thickest 0 = .ok (.iconst 0, 1) := by decide +kernel
theorem dX12_thickest_1 : decode cX12_thickest 1 = .ok (.istore_n 1, 1) := by decide +kernel
theorem dX12_thickest_2 : decode cX12_thickest 2 = .ok (.iconst 1, 1) := by decide +kernel
theorem dX12_thickest_3 : decode cX12_thickest 3 = .ok (.istore_n 2, 1) := by decide +kernel
theorem dX12_thickest_4 : decode cX12_thickest 4 = .ok (.iload_n 2, 1) := by decide +kernel
theorem dX12_thickest_5 : decode cX12_thickest 5 = .ok (.bipush 30, 2) := by decide +kernel
theorem dX12_thickest_7 : decode cX12_thickest 7 = .ok (.if_icmp .ge 32, 3) := by decide +kernel
theorem dX12_thickest_10 : decode cX12_thickest 10 = .ok (.aload_n 0, 1) := by decide +kernel
theorem dX12_thickest_11 : decode cX12_thickest 11 = .ok (.getfield 7, 3) := by decide +kernel
theorem dX12_thickest_14 : decode cX12_thickest 14 = .ok (.bipush 39, 2) := by decide +kernel
theorem dX12_thickest_16 : decode cX12_thickest 16 = .ok (.iload_n 2, 1) := by decide +kernel
theorem dX12_thickest_17 : decode cX12_thickest 17 = .ok (.iadd, 1) := by decide +kernel
theorem dX12_thickest_18 : decode cX12_thickest 18 = .ok (.iaload, 1) := by decide +kernel
theorem dX12_thickest_19 : decode cX12_thickest 19 = .ok (.aload_n 0, 1) := by decide +kernel
theorem dX12_thickest_20 : decode cX12_thickest 20 = .ok (.getfield 7, 3) := by decide +kernel
theorem dX12_thickest_23 : decode cX12_thickest 23 = .ok (.bipush 39, 2) := by decide +kernel
theorem dX12_thickest_25 : decode cX12_thickest 25 = .ok (.iload_n 1, 1) := by decide +kernel
theorem dX12_thickest_26 : decode cX12_thickest 26 = .ok (.iadd, 1) := by decide +kernel
theorem dX12_thickest_27 : decode cX12_thickest 27 = .ok (.iaload, 1) := by decide +kernel
theorem dX12_thickest_28 : decode cX12_thickest 28 = .ok (.if_icmp .le 5, 3) := by decide +kernel
theorem dX12_thickest_31 : decode cX12_thickest 31 = .ok (.iload_n 2, 1) := by decide +kernel
theorem dX12_thickest_32 : decode cX12_thickest 32 = .ok (.istore_n 1, 1) := by decide +kernel
theorem dX12_thickest_33 : decode cX12_thickest 33 = .ok (.iinc 2 1, 3) := by decide +kernel
theorem dX12_thickest_36 : decode cX12_thickest 36 = .ok (.goto (-32), 3) := by decide +kernel
theorem dX12_thickest_39 : decode cX12_thickest 39 = .ok (.iload_n 1, 1) := by decide +kernel
theorem dX12_thickest_40 : decode cX12_thickest 40 = .ok (.ireturn, 1) := by decide +kernel
theorem dX12_foretold_0 : decode cX12_foretold 0 = .ok (.iload_n 1, 1) := by decide +kernel
theorem dX12_foretold_1 : decode cX12_foretold 1 = .ok (.iconst 1, 1) := by decide +kernel
theorem dX12_foretold_2 : decode cX12_foretold 2 = .ok (.bipush 60, 2) := by decide +kernel
theorem dX12_foretold_4 : decode cX12_foretold 4 = .ok (.invokestatic 69, 3) := by decide +kernel
theorem dX12_foretold_7 : decode cX12_foretold 7 = .ok (.ifCond .eq 11, 3) := by decide +kernel
theorem dX12_foretold_10 : decode cX12_foretold 10 = .ok (.aload_n 0, 1) := by decide +kernel
theorem dX12_foretold_11 : decode cX12_foretold 11 = .ok (.iload_n 2, 1) := by decide +kernel
theorem dX12_foretold_12 : decode cX12_foretold 12 = .ok (.invokevirtual 322, 3) := by decide +kernel
theorem dX12_foretold_15 : decode cX12_foretold 15 = .ok (.ifCond .ne 6, 3) := by decide +kernel
theorem dX12_foretold_18 : decode cX12_foretold 18 = .ok (.bipush (-2), 2) := by decide +kernel
theorem dX12_foretold_20 : decode cX12_foretold 20 = .ok (.ireturn, 1) := by decide +kernel
theorem dX12_foretold_21 : decode cX12_foretold 21 = .ok (.bipush 6, 2) := by decide +kernel
theorem dX12_foretold_23 : decode cX12_foretold 23 = .ok (.istore_n 3, 1) := by decide +kernel
theorem dX12_foretold_24 : decode cX12_foretold 24 = .ok (.iload_n 3, 1) := by decide +kernel
theorem dX12_foretold_25 : decode cX12_foretold 25 = .ok (.bipush 76, 2) := by decide +kernel
theorem dX12_foretold_27 : decode cX12_foretold 27 = .ok (.if_icmp .ge 21, 3) := by decide +kernel
theorem dX12_foretold_30 : decode cX12_foretold 30 = .ok (.aload_n 0, 1) := by decide +kernel
theorem dX12_foretold_31 : decode cX12_foretold 31 = .ok (.getfield 47, 3) := by decide +kernel
theorem dX12_foretold_34 : decode cX12_foretold 34 = .ok (.iload_n 3, 1) := by decide +kernel
theorem dX12_foretold_35 : decode cX12_foretold 35 = .ok (.aload_n 0, 1) := by decide +kernel
theorem dX12_foretold_36 : decode cX12_foretold 36 = .ok (.getfield 7, 3) := by decide +kernel
theorem dX12_foretold_39 : decode cX12_foretold 39 = .ok (.iload_n 3, 1) := by decide +kernel
theorem dX12_foretold_40 : decode cX12_foretold 40 = .ok (.iaload, 1) := by decide +kernel
theorem dX12_foretold_41 : decode cX12_foretold 41 = .ok (.iastore, 1) := by decide +kernel
theorem dX12_foretold_42 : decode cX12_foretold 42 = .ok (.iinc 3 1, 3) := by decide +kernel
theorem dX12_foretold_45 : decode cX12_foretold 45 = .ok (.goto (-21), 3) := by decide +kernel
theorem dX12_foretold_48 : decode cX12_foretold 48 = .ok (.aload_n 0, 1) := by decide +kernel
theorem dX12_foretold_49 : decode cX12_foretold 49 = .ok (.iconst 0, 1) := by decide +kernel
theorem dX12_foretold_50 : decode cX12_foretold 50 = .ok (.putfield 43, 3) := by decide +kernel
theorem dX12_foretold_53 : decode cX12_foretold 53 = .ok (.iconst 0, 1) := by decide +kernel
theorem dX12_foretold_54 : decode cX12_foretold 54 = .ok (.istore_n 3, 1) := by decide +kernel
theorem dX12_foretold_55 : decode cX12_foretold 55 = .ok (.iload_n 3, 1) := by decide +kernel
theorem dX12_foretold_56 : decode cX12_foretold 56 = .ok (.iload_n 1, 1) := by decide +kernel
theorem dX12_foretold_57 : decode cX12_foretold 57 = .ok (.if_icmp .ge 26, 3) := by decide +kernel
theorem dX12_foretold_60 : decode cX12_foretold 60 = .ok (.aload_n 0, 1) := by decide +kernel
theorem dX12_foretold_61 : decode cX12_foretold 61 = .ok (.getfield 7, 3) := by decide +kernel
theorem dX12_foretold_64 : decode cX12_foretold 64 = .ok (.bipush 6, 2) := by decide +kernel
theorem dX12_foretold_66 : decode cX12_foretold 66 = .ok (.iaload, 1) := by decide +kernel
theorem dX12_foretold_67 : decode cX12_foretold 67 = .ok (.sipush 9999, 3) := by decide +kernel
theorem dX12_foretold_70 : decode cX12_foretold 70 = .ok (.if_icmp .ge 7, 3) := by decide +kernel
theorem dX12_foretold_73 : decode cX12_foretold 73 = .ok (.aload_n 0, 1) := by decide +kernel
theorem dX12_foretold_74 : decode cX12_foretold 74 = .ok (.invokevirtual 334, 3) := by decide +kernel
theorem dX12_foretold_77 : decode cX12_foretold 77 = .ok (.iinc 3 1, 3) := by decide +kernel
theorem dX12_foretold_80 : decode cX12_foretold 80 = .ok (.goto (-25), 3) := by decide +kernel
theorem dX12_foretold_83 : decode cX12_foretold 83 = .ok (.aload_n 0, 1) := by decide +kernel
theorem dX12_foretold_84 : decode cX12_foretold 84 = .ok (.getfield 7, 3) := by decide +kernel
theorem dX12_foretold_87 : decode cX12_foretold 87 = .ok (.bipush 69, 2) := by decide +kernel
theorem dX12_foretold_89 : decode cX12_foretold 89 = .ok (.iload_n 2, 1) := by decide +kernel
theorem dX12_foretold_90 : decode cX12_foretold 90 = .ok (.iadd, 1) := by decide +kernel
theorem dX12_foretold_91 : decode cX12_foretold 91 = .ok (.iaload, 1) := by decide +kernel
theorem dX12_foretold_92 : decode cX12_foretold 92 = .ok (.istore_n 3, 1) := by decide +kernel
theorem dX12_foretold_93 : decode cX12_foretold 93 = .ok (.bipush 6, 2) := by decide +kernel
theorem dX12_foretold_95 : decode cX12_foretold 95 = .ok (.istore 4, 2) := by decide +kernel
theorem dX12_foretold_97 : decode cX12_foretold 97 = .ok (.iload 4, 2) := by decide +kernel
theorem dX12_foretold_99 : decode cX12_foretold 99 = .ok (.bipush 76, 2) := by decide +kernel
theorem dX12_foretold_101 : decode cX12_foretold 101 = .ok (.if_icmp .ge 23, 3) := by decide +kernel
theorem dX12_foretold_104 : decode cX12_foretold 104 = .ok (.aload_n 0, 1) := by decide +kernel
theorem dX12_foretold_105 : decode cX12_foretold 105 = .ok (.getfield 7, 3) := by decide +kernel
theorem dX12_foretold_108 : decode cX12_foretold 108 = .ok (.iload 4, 2) := by decide +kernel
theorem dX12_foretold_110 : decode cX12_foretold 110 = .ok (.aload_n 0, 1) := by decide +kernel
theorem dX12_foretold_111 : decode cX12_foretold 111 = .ok (.getfield 47, 3) := by decide +kernel
theorem dX12_foretold_114 : decode cX12_foretold 114 = .ok (.iload 4, 2) := by decide +kernel
theorem dX12_foretold_116 : decode cX12_foretold 116 = .ok (.iaload, 1) := by decide +kernel
theorem dX12_foretold_117 : decode cX12_foretold 117 = .ok (.iastore, 1) := by decide +kernel
theorem dX12_foretold_118 : decode cX12_foretold 118 = .ok (.iinc 4 1, 3) := by decide +kernel
theorem dX12_foretold_121 : decode cX12_foretold 121 = .ok (.goto (-24), 3) := by decide +kernel
theorem dX12_foretold_124 : decode cX12_foretold 124 = .ok (.aload_n 0, 1) := by decide +kernel
theorem dX12_foretold_125 : decode cX12_foretold 125 = .ok (.iconst 1, 1) := by decide +kernel
theorem dX12_foretold_126 : decode cX12_foretold 126 = .ok (.putfield 43, 3) := by decide +kernel
theorem dX12_foretold_129 : decode cX12_foretold 129 = .ok (.iload_n 3, 1) := by decide +kernel
theorem dX12_foretold_130 : decode cX12_foretold 130 = .ok (.ireturn, 1) := by decide +kernel
theorem dX12_layBars_0 : decode cX12_layBars 0 = .ok (.aload_n 0, 1) := by decide +kernel
theorem dX12_layBars_1 : decode cX12_layBars 1 = .ok (.iconst 0, 1) := by decide +kernel
theorem dX12_layBars_2 : decode cX12_layBars 2 = .ok (.putfield 373, 3) := by decide +kernel
theorem dX12_layBars_5 : decode cX12_layBars 5 = .ok (.iconst 0, 1) := by decide +kernel
theorem dX12_layBars_6 : decode cX12_layBars 6 = .ok (.istore_n 2, 1) := by decide +kernel
theorem dX12_layBars_7 : decode cX12_layBars 7 = .ok (.iload_n 2, 1) := by decide +kernel
theorem dX12_layBars_8 : decode cX12_layBars 8 = .ok (.bipush 60, 2) := by decide +kernel
theorem dX12_layBars_10 : decode cX12_layBars 10 = .ok (.if_icmp .ge 65, 3) := by decide +kernel
theorem dX12_layBars_13 : decode cX12_layBars 13 = .ok (.aload_n 0, 1) := by decide +kernel
theorem dX12_layBars_14 : decode cX12_layBars 14 = .ok (.getfield 7, 3) := by decide +kernel
theorem dX12_layBars_17 : decode cX12_layBars 17 = .ok (.bipush 9, 2) := by decide +kernel
theorem dX12_layBars_19 : decode cX12_layBars 19 = .ok (.iload_n 1, 1) := by decide +kernel
theorem dX12_layBars_20 : decode cX12_layBars 20 = .ok (.iload_n 2, 1) := by decide +kernel
theorem dX12_layBars_21 : decode cX12_layBars 21 = .ok (.iadd, 1) := by decide +kernel
theorem dX12_layBars_22 : decode cX12_layBars 22 = .ok (.bipush 30, 2) := by decide +kernel
theorem dX12_layBars_24 : decode cX12_layBars 24 = .ok (.irem, 1) := by decide +kernel
theorem dX12_layBars_25 : decode cX12_layBars 25 = .ok (.iadd, 1) := by decide +kernel
theorem dX12_layBars_26 : decode cX12_layBars 26 = .ok (.iaload, 1) := by decide +kernel
theorem dX12_layBars_27 : decode cX12_layBars 27 = .ok (.iconst 3, 1) := by decide +kernel
theorem dX12_layBars_28 : decode cX12_layBars 28 = .ok (.if_icmp .eq 47, 3) := by decide +kernel
theorem dX12_layBars_31 : decode cX12_layBars 31 = .ok (.iload_n 1, 1) := by decide +kernel
theorem dX12_layBars_32 : decode cX12_layBars 32 = .ok (.iload_n 2, 1) := by decide +kernel
theorem dX12_layBars_33 : decode cX12_layBars 33 = .ok (.iadd, 1) := by decide +kernel
theorem dX12_layBars_34 : decode cX12_layBars 34 = .ok (.bipush 30, 2) := by decide +kernel
theorem dX12_layBars_36 : decode cX12_layBars 36 = .ok (.irem, 1) := by decide +kernel
theorem dX12_layBars_37 : decode cX12_layBars 37 = .ok (.istore_n 3, 1) := by decide +kernel
theorem dX12_layBars_38 : decode cX12_layBars 38 = .ok (.aload_n 0, 1) := by decide +kernel
theorem dX12_layBars_39 : decode cX12_layBars 39 = .ok (.iload_n 3, 1) := by decide +kernel
theorem dX12_layBars_40 : decode cX12_layBars 40 = .ok (.invokevirtual 300, 3) := by decide +kernel
theorem dX12_layBars_43 : decode cX12_layBars 43 = .ok (.ifCond .ne 6, 3) := by decide +kernel
theorem dX12_layBars_46 : decode cX12_layBars 46 = .ok (.goto 23, 3) := by decide +kernel
theorem dX12_layBars_49 : decode cX12_layBars 49 = .ok (.aload_n 0, 1) := by decide +kernel
theorem dX12_layBars_50 : decode cX12_layBars 50 = .ok (.getfield 50, 3) := by decide +kernel
theorem dX12_layBars_53 : decode cX12_layBars 53 = .ok (.aload_n 0, 1) := by decide +kernel
theorem dX12_layBars_54 : decode cX12_layBars 54 = .ok (.getfield 373, 3) := by decide +kernel
theorem dX12_layBars_57 : decode cX12_layBars 57 = .ok (.iload_n 3, 1) := by decide +kernel
theorem dX12_layBars_58 : decode cX12_layBars 58 = .ok (.iastore, 1) := by decide +kernel
theorem dX12_layBars_59 : decode cX12_layBars 59 = .ok (.aload_n 0, 1) := by decide +kernel
theorem dX12_layBars_60 : decode cX12_layBars 60 = .ok (.dup, 1) := by decide +kernel
theorem dX12_layBars_61 : decode cX12_layBars 61 = .ok (.getfield 373, 3) := by decide +kernel
theorem dX12_layBars_64 : decode cX12_layBars 64 = .ok (.iconst 1, 1) := by decide +kernel
theorem dX12_layBars_65 : decode cX12_layBars 65 = .ok (.iadd, 1) := by decide +kernel
theorem dX12_layBars_66 : decode cX12_layBars 66 = .ok (.putfield 373, 3) := by decide +kernel
theorem dX12_layBars_69 : decode cX12_layBars 69 = .ok (.iinc 2 1, 3) := by decide +kernel
theorem dX12_layBars_72 : decode cX12_layBars 72 = .ok (.goto (-65), 3) := by decide +kernel
theorem dX12_layBars_75 : decode cX12_layBars 75 = .ok (.return_, 1) := by decide +kernel
theorem dX12_caughtAt_0 : decode cX12_caughtAt 0 = .ok (.aload_n 0, 1) := by decide +kernel
theorem dX12_caughtAt_1 : decode cX12_caughtAt 1 = .ok (.aload_n 0, 1) := by decide +kernel
theorem dX12_caughtAt_2 : decode cX12_caughtAt 2 = .ok (.getfield 7, 3) := by decide +kernel
theorem dX12_caughtAt_5 : decode cX12_caughtAt 5 = .ok (.iconst 2, 1) := by decide +kernel
theorem dX12_caughtAt_6 : decode cX12_caughtAt 6 = .ok (.iaload, 1) := by decide +kernel
theorem dX12_caughtAt_7 : decode cX12_caughtAt 7 = .ok (.iload_n 1, 1) := by decide +kernel
theorem dX12_caughtAt_8 : decode cX12_caughtAt 8 = .ok (.aload_n 0, 1) := by decide +kernel
theorem dX12_caughtAt_9 : decode cX12_caughtAt 9 = .ok (.getfield 50, 3) := by decide +kernel
theorem dX12_caughtAt_12 : decode cX12_caughtAt 12 = .ok (.iload_n 2, 1) := by decide +kernel
theorem dX12_caughtAt_13 : decode cX12_caughtAt 13 = .ok (.iconst 1, 1) := by decide +kernel
theorem dX12_caughtAt_14 : decode cX12_caughtAt 14 = .ok (.isub, 1) := by decide +kernel
theorem dX12_caughtAt_15 : decode cX12_caughtAt 15 = .ok (.iaload, 1) := by decide +kernel
theorem dX12_caughtAt_16 : decode cX12_caughtAt 16 = .ok (.iload_n 2, 1) := by decide +kernel
theorem dX12_caughtAt_17 : decode cX12_caughtAt 17 = .ok (.invokevirtual 303, 3) := by decide +kernel
theorem dX12_caughtAt_20 : decode cX12_caughtAt 20 = .ok (.ireturn, 1) := by decide +kernel
theorem dX12_weightOf_0 : decode cX12_weightOf 0 = .ok (.aload_n 0, 1) := by decide +kernel
theorem dX12_weightOf_1 : decode cX12_weightOf 1 = .ok (.iload_n 2, 1) := by decide +kernel
theorem dX12_weightOf_2 : decode cX12_weightOf 2 = .ok (.invokevirtual 376, 3) := by decide +kernel
theorem dX12_weightOf_5 : decode cX12_weightOf 5 = .ok (.iload_n 3, 1) := by decide +kernel
theorem dX12_weightOf_6 : decode cX12_weightOf 6 = .ok (.aload_n 0, 1) := by decide +kernel
theorem dX12_weightOf_7 : decode cX12_weightOf 7 = .ok (.getfield 373, 3) := by decide +kernel
theorem dX12_weightOf_10 : decode cX12_weightOf 10 = .ok (.if_icmp .le 5, 3) := by decide +kernel
theorem dX12_weightOf_13 : decode cX12_weightOf 13 = .ok (.lconst 0, 1) := by decide +kernel
theorem dX12_weightOf_14 : decode cX12_weightOf 14 = .ok (.lreturn, 1) := by decide +kernel
theorem dX12_weightOf_15 : decode cX12_weightOf 15 = .ok (.iload_n 3, 1) := by decide +kernel
theorem dX12_weightOf_16 : decode cX12_weightOf 16 = .ok (.ifCond .ne 16, 3) := by decide +kernel
theorem dX12_weightOf_19 : decode cX12_weightOf 19 = .ok (.aload_n 0, 1) := by decide +kernel
theorem dX12_weightOf_20 : decode cX12_weightOf 20 = .ok (.getfield 373, 3) := by decide +kernel
theorem dX12_weightOf_23 : decode cX12_weightOf 23 = .ok (.ifCond .ne 7, 3) := by decide +kernel
theorem dX12_weightOf_26 : decode cX12_weightOf 26 = .ok (.lconst 1, 1) := by decide +kernel
theorem dX12_weightOf_27 : decode cX12_weightOf 27 = .ok (.goto 4, 3) := by decide +kernel
theorem dX12_weightOf_30 : decode cX12_weightOf 30 = .ok (.lconst 0, 1) := by decide +kernel
theorem dX12_weightOf_31 : decode cX12_weightOf 31 = .ok (.lreturn, 1) := by decide +kernel
theorem dX12_weightOf_32 : decode cX12_weightOf 32 = .ok (.lconst 1, 1) := by decide +kernel
theorem dX12_weightOf_33 : decode cX12_weightOf 33 = .ok (.lstore 4, 2) := by decide +kernel
theorem dX12_weightOf_35 : decode cX12_weightOf 35 = .ok (.iconst 1, 1) := by decide +kernel
theorem dX12_weightOf_36 : decode cX12_weightOf 36 = .ok (.istore 6, 2) := by decide +kernel
theorem dX12_weightOf_38 : decode cX12_weightOf 38 = .ok (.iload 6, 2) := by decide +kernel
theorem dX12_weightOf_40 : decode cX12_weightOf 40 = .ok (.iload_n 3, 1) := by decide +kernel
theorem dX12_weightOf_41 : decode cX12_weightOf 41 = .ok (.if_icmp .ge 25, 3) := by decide +kernel
theorem dX12_weightOf_44 : decode cX12_weightOf 44 = .ok (.lload 4, 2) := by decide +kernel
theorem dX12_weightOf_46 : decode cX12_weightOf 46 = .ok (.bipush 10, 2) := by decide +kernel
theorem dX12_weightOf_48 : decode cX12_weightOf 48 = .ok (.aload_n 0, 1) := by decide +kernel
theorem dX12_weightOf_49 : decode cX12_weightOf 49 = .ok (.iload_n 1, 1) := by decide +kernel
theorem dX12_weightOf_50 : decode cX12_weightOf 50 = .ok (.iload 6, 2) := by decide +kernel
theorem dX12_weightOf_52 : decode cX12_weightOf 52 = .ok (.invokevirtual 379, 3) := by decide +kernel
theorem dX12_weightOf_55 : decode cX12_weightOf 55 = .ok (.isub, 1) := by decide +kernel
theorem dX12_weightOf_56 : decode cX12_weightOf 56 = .ok (.i2l, 1) := by decide +kernel
theorem dX12_weightOf_57 : decode cX12_weightOf 57 = .ok (.lmul, 1) := by decide +kernel
theorem dX12_weightOf_58 : decode cX12_weightOf 58 = .ok (.lstore 4, 2) := by decide +kernel
theorem dX12_weightOf_60 : decode cX12_weightOf 60 = .ok (.iinc 6 1, 3) := by decide +kernel
theorem dX12_weightOf_63 : decode cX12_weightOf 63 = .ok (.goto (-25), 3) := by decide +kernel
theorem dX12_weightOf_66 : decode cX12_weightOf 66 = .ok (.lload 4, 2) := by decide +kernel
theorem dX12_weightOf_68 : decode cX12_weightOf 68 = .ok (.iload_n 3, 1) := by decide +kernel
theorem dX12_weightOf_69 : decode cX12_weightOf 69 = .ok (.aload_n 0, 1) := by decide +kernel
theorem dX12_weightOf_70 : decode cX12_weightOf 70 = .ok (.getfield 373, 3) := by decide +kernel
theorem dX12_weightOf_73 : decode cX12_weightOf 73 = .ok (.if_icmp .ne 8, 3) := by decide +kernel
theorem dX12_weightOf_76 : decode cX12_weightOf 76 = .ok (.bipush 10, 2) := by decide +kernel
theorem dX12_weightOf_78 : decode cX12_weightOf 78 = .ok (.goto 9, 3) := by decide +kernel
theorem dX12_weightOf_81 : decode cX12_weightOf 81 = .ok (.aload_n 0, 1) := by decide +kernel
theorem dX12_weightOf_82 : decode cX12_weightOf 82 = .ok (.iload_n 1, 1) := by decide +kernel
theorem dX12_weightOf_83 : decode cX12_weightOf 83 = .ok (.iload_n 3, 1) := by decide +kernel
theorem dX12_weightOf_84 : decode cX12_weightOf 84 = .ok (.invokevirtual 379, 3) := by decide +kernel
theorem dX12_weightOf_87 : decode cX12_weightOf 87 = .ok (.i2l, 1) := by decide +kernel
theorem dX12_weightOf_88 : decode cX12_weightOf 88 = .ok (.lmul, 1) := by decide +kernel
theorem dX12_weightOf_89 : decode cX12_weightOf 89 = .ok (.lreturn, 1) := by decide +kernel
theorem dX12_tens_0 : decode cX12_tens 0 = .ok (.lconst 1, 1) := by decide +kernel
theorem dX12_tens_1 : decode cX12_tens 1 = .ok (.lstore_n 1, 1) := by decide +kernel
theorem dX12_tens_2 : decode cX12_tens 2 = .ok (.iconst 0, 1) := by decide +kernel
theorem dX12_tens_3 : decode cX12_tens 3 = .ok (.istore_n 3, 1) := by decide +kernel
theorem dX12_tens_4 : decode cX12_tens 4 = .ok (.iload_n 3, 1) := by decide +kernel
theorem dX12_tens_5 : decode cX12_tens 5 = .ok (.iload_n 0, 1) := by decide +kernel
theorem dX12_tens_6 : decode cX12_tens 6 = .ok (.if_icmp .ge 15, 3) := by decide +kernel
theorem dX12_tens_9 : decode cX12_tens 9 = .ok (.lload_n 1, 1) := by decide +kernel
theorem dX12_tens_10 : decode cX12_tens 10 = .ok (.ldc2_w 382, 3) := by decide +kernel
theorem dX12_tens_13 : decode cX12_tens 13 = .ok (.lmul, 1) := by decide +kernel
theorem dX12_tens_14 : decode cX12_tens 14 = .ok (.lstore_n 1, 1) := by decide +kernel
theorem dX12_tens_15 : decode cX12_tens 15 = .ok (.iinc 3 1, 3) := by decide +kernel
theorem dX12_tens_18 : decode cX12_tens 18 = .ok (.goto (-14), 3) := by decide +kernel
theorem dX12_tens_21 : decode cX12_tens 21 = .ok (.lload_n 1, 1) := by decide +kernel
theorem dX12_tens_22 : decode cX12_tens 22 = .ok (.lreturn, 1) := by decide +kernel
theorem dX12_divisor_0 : decode cX12_divisor 0 = .ok (.lload_n 0, 1) := by decide +kernel
theorem dX12_divisor_1 : decode cX12_divisor 1 = .ok (.lstore 4, 2) := by decide +kernel
theorem dX12_divisor_3 : decode cX12_divisor 3 = .ok (.lload_n 2, 1) := by decide +kernel
theorem dX12_divisor_4 : decode cX12_divisor 4 = .ok (.lstore 6, 2) := by decide +kernel
theorem dX12_divisor_6 : decode cX12_divisor 6 = .ok (.lload 6, 2) := by decide +kernel
theorem dX12_divisor_8 : decode cX12_divisor 8 = .ok (.lconst 0, 1) := by decide +kernel
theorem dX12_divisor_9 : decode cX12_divisor 9 = .ok (.lcmp, 1) := by decide +kernel
theorem dX12_divisor_10 : decode cX12_divisor 10 = .ok (.ifCond .eq 21, 3) := by decide +kernel
theorem dX12_divisor_13 : decode cX12_divisor 13 = .ok (.lload 4, 2) := by decide +kernel
theorem dX12_divisor_15 : decode cX12_divisor 15 = .ok (.lload 6, 2) := by decide +kernel
theorem dX12_divisor_17 : decode cX12_divisor 17 = .ok (.lrem, 1) := by decide +kernel
theorem dX12_divisor_18 : decode cX12_divisor 18 = .ok (.lstore 8, 2) := by decide +kernel
theorem dX12_divisor_20 : decode cX12_divisor 20 = .ok (.lload 6, 2) := by decide +kernel
theorem dX12_divisor_22 : decode cX12_divisor 22 = .ok (.lstore 4, 2) := by decide +kernel
theorem dX12_divisor_24 : decode cX12_divisor 24 = .ok (.lload 8, 2) := by decide +kernel
theorem dX12_divisor_26 : decode cX12_divisor 26 = .ok (.lstore 6, 2) := by decide +kernel
theorem dX12_divisor_28 : decode cX12_divisor 28 = .ok (.goto (-22), 3) := by decide +kernel
theorem dX12_divisor_31 : decode cX12_divisor 31 = .ok (.lload 4, 2) := by decide +kernel
theorem dX12_divisor_33 : decode cX12_divisor 33 = .ok (.lreturn, 1) := by decide +kernel
theorem dX12_part_0 : decode cX12_part 0 = .ok (.iload 4, 2) := by decide +kernel
theorem dX12_part_2 : decode cX12_part 2 = .ok (.ifCond .eq 7, 3) := by decide +kernel
theorem dX12_part_5 : decode cX12_part 5 = .ok (.lload_n 2, 1) := by decide +kernel
theorem dX12_part_6 : decode cX12_part 6 = .ok (.goto 4, 3) := by decide +kernel
theorem dX12_part_9 : decode cX12_part 9 = .ok (.lload_n 0, 1) := by decide +kernel
theorem dX12_part_10 : decode cX12_part 10 = .ok (.lload_n 0, 1) := by decide +kernel
theorem dX12_part_11 : decode cX12_part 11 = .ok (.lload_n 2, 1) := by decide +kernel
theorem dX12_part_12 : decode cX12_part 12 = .ok (.invokestatic 384, 3) := by decide +kernel
theorem dX12_part_15 : decode cX12_part 15 = .ok (.ldiv, 1) := by decide +kernel
theorem dX12_part_16 : decode cX12_part 16 = .ok (.lreturn, 1) := by decide +kernel
theorem dX12_areRunning_0 : decode cX12_areRunning 0 = .ok (.aload_n 0, 1) := by decide +kernel
theorem dX12_areRunning_1 : decode cX12_areRunning 1 = .ok (.iload_n 1, 1) := by decide +kernel
theorem dX12_areRunning_2 : decode cX12_areRunning 2 = .ok (.invokevirtual 322, 3) := by decide +kernel
theorem dX12_areRunning_5 : decode cX12_areRunning 5 = .ok (.ifCond .eq 14, 3) := by decide +kernel
theorem dX12_areRunning_8 : decode cX12_areRunning 8 = .ok (.iload_n 2, 1) := by decide +kernel
theorem dX12_areRunning_9 : decode cX12_areRunning 9 = .ok (.invokestatic 73, 3) := by decide +kernel
theorem dX12_areRunning_12 : decode cX12_areRunning 12 = .ok (.ifCond .eq 7, 3) := by decide +kernel
theorem dX12_areRunning_15 : decode cX12_areRunning 15 = .ok (.iconst 1, 1) := by decide +kernel
theorem dX12_areRunning_16 : decode cX12_areRunning 16 = .ok (.goto 4, 3) := by decide +kernel
theorem dX12_areRunning_19 : decode cX12_areRunning 19 = .ok (.iconst 0, 1) := by decide +kernel
theorem dX12_areRunning_20 : decode cX12_areRunning 20 = .ok (.ireturn, 1) := by decide +kernel
theorem dX12_likely_0 : decode cX12_likely 0 = .ok (.aload_n 0, 1) := by decide +kernel
theorem dX12_likely_1 : decode cX12_likely 1 = .ok (.iload_n 1, 1) := by decide +kernel
theorem dX12_likely_2 : decode cX12_likely 2 = .ok (.iload_n 2, 1) := by decide +kernel
theorem dX12_likely_3 : decode cX12_likely 3 = .ok (.invokevirtual 387, 3) := by decide +kernel
theorem dX12_likely_6 : decode cX12_likely 6 = .ok (.ifCond .eq 32, 3) := by decide +kernel
theorem dX12_likely_9 : decode cX12_likely 9 = .ok (.iload_n 3, 1) := by decide +kernel
theorem dX12_likely_10 : decode cX12_likely 10 = .ok (.iconst 0, 1) := by decide +kernel
theorem dX12_likely_11 : decode cX12_likely 11 = .ok (.bipush 12, 2) := by decide +kernel
theorem dX12_likely_13 : decode cX12_likely 13 = .ok (.invokestatic 69, 3) := by decide +kernel
theorem dX12_likely_16 : decode cX12_likely 16 = .ok (.ifCond .eq 22, 3) := by decide +kernel
theorem dX12_likely_19 : decode cX12_likely 19 = .ok (.aload_n 0, 1) := by decide +kernel
theorem dX12_likely_20 : decode cX12_likely 20 = .ok (.iload_n 1, 1) := by decide +kernel
theorem dX12_likely_21 : decode cX12_likely 21 = .ok (.iload_n 2, 1) := by decide +kernel
theorem dX12_likely_22 : decode cX12_likely 22 = .ok (.iload_n 3, 1) := by decide +kernel
theorem dX12_likely_23 : decode cX12_likely 23 = .ok (.invokevirtual 390, 3) := by decide +kernel
theorem dX12_likely_26 : decode cX12_likely 26 = .ok (.iload_n 3, 1) := by decide +kernel
theorem dX12_likely_27 : decode cX12_likely 27 = .ok (.invokestatic 393, 3) := by decide +kernel
theorem dX12_likely_30 : decode cX12_likely 30 = .ok (.iload 4, 2) := by decide +kernel
theorem dX12_likely_32 : decode cX12_likely 32 = .ok (.invokestatic 397, 3) := by decide +kernel
theorem dX12_likely_35 : decode cX12_likely 35 = .ok (.goto 6, 3) := by decide +kernel
theorem dX12_likely_38 : decode cX12_likely 38 = .ok (.ldc2_w 401, 3) := by decide +kernel
theorem dX12_likely_41 : decode cX12_likely 41 = .ok (.lreturn, 1) := by decide +kernel
theorem dX12_start_0 : decode cX12_start 0 = .ok (.aload_n 0, 1) := by decide +kernel
theorem dX12_start_1 : decode cX12_start 1 = .ok (.iload_n 1, 1) := by decide +kernel
theorem dX12_start_2 : decode cX12_start 2 = .ok (.invokevirtual 322, 3) := by decide +kernel
theorem dX12_start_5 : decode cX12_start 5 = .ok (.ifCond .eq 13, 3) := by decide +kernel
theorem dX12_start_8 : decode cX12_start 8 = .ok (.iload_n 2, 1) := by decide +kernel
theorem dX12_start_9 : decode cX12_start 9 = .ok (.iconst 0, 1) := by decide +kernel
theorem dX12_start_10 : decode cX12_start 10 = .ok (.bipush 12, 2) := by decide +kernel
theorem dX12_start_12 : decode cX12_start 12 = .ok (.invokestatic 69, 3) := by decide +kernel
theorem dX12_start_15 : decode cX12_start 15 = .ok (.ifCond .ne 5, 3) := by decide +kernel
theorem dX12_start_18 : decode cX12_start 18 = .ok (.iconst (-1), 1) := by decide +kernel
theorem dX12_start_19 : decode cX12_start 19 = .ok (.ireturn, 1) := by decide +kernel
theorem dX12_start_20 : decode cX12_start 20 = .ok (.iconst (-1), 1) := by decide +kernel
theorem dX12_start_21 : decode cX12_start 21 = .ok (.istore_n 3, 1) := by decide +kernel
theorem dX12_start_22 : decode cX12_start 22 = .ok (.lconst 0, 1) := by decide +kernel
theorem dX12_start_23 : decode cX12_start 23 = .ok (.lstore 4, 2) := by decide +kernel
theorem dX12_start_25 : decode cX12_start 25 = .ok (.iconst 0, 1) := by decide +kernel
theorem dX12_start_26 : decode cX12_start 26 = .ok (.istore 6, 2) := by decide +kernel
theorem dX12_start_28 : decode cX12_start 28 = .ok (.iload 6, 2) := by decide +kernel
theorem dX12_start_30 : decode cX12_start 30 = .ok (.bipush 30, 2) := by decide +kernel
theorem dX12_start_32 : decode cX12_start 32 = .ok (.if_icmp .ge 37, 3) := by decide +kernel
theorem dX12_start_35 : decode cX12_start 35 = .ok (.aload_n 0, 1) := by decide +kernel
theorem dX12_start_36 : decode cX12_start 36 = .ok (.iload_n 1, 1) := by decide +kernel
theorem dX12_start_37 : decode cX12_start 37 = .ok (.iload 6, 2) := by decide +kernel
theorem dX12_start_39 : decode cX12_start 39 = .ok (.iload_n 2, 1) := by decide +kernel
theorem dX12_start_40 : decode cX12_start 40 = .ok (.invokevirtual 390, 3) := by decide +kernel
theorem dX12_start_43 : decode cX12_start 43 = .ok (.lstore 7, 2) := by decide +kernel
theorem dX12_start_45 : decode cX12_start 45 = .ok (.lload 7, 2) := by decide +kernel
theorem dX12_start_47 : decode cX12_start 47 = .ok (.lload 4, 2) := by decide +kernel
theorem dX12_start_49 : decode cX12_start 49 = .ok (.lcmp, 1) := by decide +kernel
theorem dX12_start_50 : decode cX12_start 50 = .ok (.ifCond .gt 6, 3) := by decide +kernel
theorem dX12_start_53 : decode cX12_start 53 = .ok (.goto 10, 3) := by decide +kernel
theorem dX12_start_56 : decode cX12_start 56 = .ok (.lload 7, 2) := by decide +kernel
theorem dX12_start_58 : decode cX12_start 58 = .ok (.lstore 4, 2) := by decide +kernel
theorem dX12_start_60 : decode cX12_start 60 = .ok (.iload 6, 2) := by decide +kernel
theorem dX12_start_62 : decode cX12_start 62 = .ok (.istore_n 3, 1) := by decide +kernel
theorem dX12_start_63 : decode cX12_start 63 = .ok (.iinc 6 1, 3) := by decide +kernel
theorem dX12_start_66 : decode cX12_start 66 = .ok (.goto (-38), 3) := by decide +kernel
theorem dX12_start_69 : decode cX12_start 69 = .ok (.iload_n 3, 1) := by decide +kernel
theorem dX12_start_70 : decode cX12_start 70 = .ok (.ireturn, 1) := by decide +kernel
theorem dX12_mean_0 : decode cX12_mean 0 = .ok (.aload_n 0, 1) := by decide +kernel
theorem dX12_mean_1 : decode cX12_mean 1 = .ok (.iload_n 1, 1) := by decide +kernel
theorem dX12_mean_2 : decode cX12_mean 2 = .ok (.iload_n 2, 1) := by decide +kernel
theorem dX12_mean_3 : decode cX12_mean 3 = .ok (.invokevirtual 387, 3) := by decide +kernel
theorem dX12_mean_6 : decode cX12_mean 6 = .ok (.ifCond .ne 7, 3) := by decide +kernel
theorem dX12_mean_9 : decode cX12_mean 9 = .ok (.ldc2_w 401, 3) := by decide +kernel
theorem dX12_mean_12 : decode cX12_mean 12 = .ok (.lreturn, 1) := by decide +kernel
theorem dX12_mean_13 : decode cX12_mean 13 = .ok (.aload_n 0, 1) := by decide +kernel
theorem dX12_mean_14 : decode cX12_mean 14 = .ok (.iload_n 2, 1) := by decide +kernel
theorem dX12_mean_15 : decode cX12_mean 15 = .ok (.invokevirtual 376, 3) := by decide +kernel
theorem dX12_mean_18 : decode cX12_mean 18 = .ok (.aload_n 0, 1) := by decide +kernel
theorem dX12_mean_19 : decode cX12_mean 19 = .ok (.getfield 373, 3) := by decide +kernel
theorem dX12_mean_22 : decode cX12_mean 22 = .ok (.istore 4, 2) := by decide +kernel
theorem dX12_mean_24 : decode cX12_mean 24 = .ok (.iload 4, 2) := by decide +kernel
theorem dX12_mean_26 : decode cX12_mean 26 = .ok (.bipush 12, 2) := by decide +kernel
theorem dX12_mean_28 : decode cX12_mean 28 = .ok (.if_icmp .le 7, 3) := by decide +kernel
theorem dX12_mean_31 : decode cX12_mean 31 = .ok (.ldc2_w 401, 3) := by decide +kernel
theorem dX12_mean_34 : decode cX12_mean 34 = .ok (.lreturn, 1) := by decide +kernel
theorem dX12_mean_35 : decode cX12_mean 35 = .ok (.lconst 0, 1) := by decide +kernel
theorem dX12_mean_36 : decode cX12_mean 36 = .ok (.lstore 5, 2) := by decide +kernel
theorem dX12_mean_38 : decode cX12_mean 38 = .ok (.iconst 1, 1) := by decide +kernel
theorem dX12_mean_39 : decode cX12_mean 39 = .ok (.istore 7, 2) := by decide +kernel
theorem dX12_mean_41 : decode cX12_mean 41 = .ok (.iload 7, 2) := by decide +kernel
theorem dX12_mean_43 : decode cX12_mean 43 = .ok (.iload 4, 2) := by decide +kernel
theorem dX12_mean_45 : decode cX12_mean 45 = .ok (.if_icmp .gt 35, 3) := by decide +kernel
theorem dX12_mean_48 : decode cX12_mean 48 = .ok (.lload 5, 2) := by decide +kernel
theorem dX12_mean_50 : decode cX12_mean 50 = .ok (.iload 7, 2) := by decide +kernel
theorem dX12_mean_52 : decode cX12_mean 52 = .ok (.i2l, 1) := by decide +kernel
theorem dX12_mean_53 : decode cX12_mean 53 = .ok (.aload_n 0, 1) := by decide +kernel
theorem dX12_mean_54 : decode cX12_mean 54 = .ok (.iload_n 1, 1) := by decide +kernel
theorem dX12_mean_55 : decode cX12_mean 55 = .ok (.iload_n 2, 1) := by decide +kernel
theorem dX12_mean_56 : decode cX12_mean 56 = .ok (.iload 7, 2) := by decide +kernel
theorem dX12_mean_58 : decode cX12_mean 58 = .ok (.invokevirtual 390, 3) := by decide +kernel
theorem dX12_mean_61 : decode cX12_mean 61 = .ok (.lmul, 1) := by decide +kernel
theorem dX12_mean_62 : decode cX12_mean 62 = .ok (.iload 4, 2) := by decide +kernel
theorem dX12_mean_64 : decode cX12_mean 64 = .ok (.iload 7, 2) := by decide +kernel
theorem dX12_mean_66 : decode cX12_mean 66 = .ok (.isub, 1) := by decide +kernel
theorem dX12_mean_67 : decode cX12_mean 67 = .ok (.invokestatic 393, 3) := by decide +kernel
theorem dX12_mean_70 : decode cX12_mean 70 = .ok (.lmul, 1) := by decide +kernel
theorem dX12_mean_71 : decode cX12_mean 71 = .ok (.ladd, 1) := by decide +kernel
theorem dX12_mean_72 : decode cX12_mean 72 = .ok (.lstore 5, 2) := by decide +kernel
theorem dX12_mean_74 : decode cX12_mean 74 = .ok (.iinc 7 1, 3) := by decide +kernel
theorem dX12_mean_77 : decode cX12_mean 77 = .ok (.goto (-36), 3) := by decide +kernel
theorem dX12_mean_80 : decode cX12_mean 80 = .ok (.lload 5, 2) := by decide +kernel
theorem dX12_mean_82 : decode cX12_mean 82 = .ok (.iload 4, 2) := by decide +kernel
theorem dX12_mean_84 : decode cX12_mean 84 = .ok (.invokestatic 393, 3) := by decide +kernel
theorem dX12_mean_87 : decode cX12_mean 87 = .ok (.iload_n 3, 1) := by decide +kernel
theorem dX12_mean_88 : decode cX12_mean 88 = .ok (.invokestatic 397, 3) := by decide +kernel
theorem dX12_mean_91 : decode cX12_mean 91 = .ok (.lreturn, 1) := by decide +kernel
theorem dX12_which_0 : decode cX12_which 0 = .ok (.aload_n 0, 1) := by decide +kernel
theorem dX12_which_1 : decode cX12_which 1 = .ok (.iload_n 1, 1) := by decide +kernel
theorem dX12_which_2 : decode cX12_which 2 = .ok (.iload_n 2, 1) := by decide +kernel
theorem dX12_which_3 : decode cX12_which 3 = .ok (.invokevirtual 387, 3) := by decide +kernel
theorem dX12_which_6 : decode cX12_which 6 = .ok (.ifCond .eq 13, 3) := by decide +kernel
theorem dX12_which_9 : decode cX12_which 9 = .ok (.iload_n 3, 1) := by decide +kernel
theorem dX12_which_10 : decode cX12_which 10 = .ok (.iconst 0, 1) := by decide +kernel
theorem dX12_which_11 : decode cX12_which 11 = .ok (.bipush 12, 2) := by decide +kernel
theorem dX12_which_13 : decode cX12_which 13 = .ok (.invokestatic 69, 3) := by decide +kernel
theorem dX12_which_16 : decode cX12_which 16 = .ok (.ifCond .ne 5, 3) := by decide +kernel
theorem dX12_which_19 : decode cX12_which 19 = .ok (.iconst (-1), 1) := by decide +kernel
theorem dX12_which_20 : decode cX12_which 20 = .ok (.ireturn, 1) := by decide +kernel
theorem dX12_which_21 : decode cX12_which 21 = .ok (.iconst (-1), 1) := by decide +kernel
theorem dX12_which_22 : decode cX12_which 22 = .ok (.istore 4, 2) := by decide +kernel
theorem dX12_which_24 : decode cX12_which 24 = .ok (.aload_n 0, 1) := by decide +kernel
theorem dX12_which_25 : decode cX12_which 25 = .ok (.iload_n 1, 1) := by decide +kernel
theorem dX12_which_26 : decode cX12_which 26 = .ok (.iload_n 2, 1) := by decide +kernel
theorem dX12_which_27 : decode cX12_which 27 = .ok (.iload_n 3, 1) := by decide +kernel
theorem dX12_which_28 : decode cX12_which 28 = .ok (.invokevirtual 390, 3) := by decide +kernel
theorem dX12_which_31 : decode cX12_which 31 = .ok (.lstore 5, 2) := by decide +kernel
theorem dX12_which_33 : decode cX12_which 33 = .ok (.iconst 0, 1) := by decide +kernel
theorem dX12_which_34 : decode cX12_which 34 = .ok (.istore 7, 2) := by decide +kernel
theorem dX12_which_36 : decode cX12_which 36 = .ok (.iload 7, 2) := by decide +kernel
theorem dX12_which_38 : decode cX12_which 38 = .ok (.bipush 30, 2) := by decide +kernel
theorem dX12_which_40 : decode cX12_which 40 = .ok (.if_icmp .ge 71, 3) := by decide +kernel
theorem dX12_which_43 : decode cX12_which 43 = .ok (.aload_n 0, 1) := by decide +kernel
theorem dX12_which_44 : decode cX12_which 44 = .ok (.iload 7, 2) := by decide +kernel
theorem dX12_which_46 : decode cX12_which 46 = .ok (.invokevirtual 300, 3) := by decide +kernel
theorem dX12_which_49 : decode cX12_which 49 = .ok (.ifCond .ne 6, 3) := by decide +kernel
theorem dX12_which_52 : decode cX12_which 52 = .ok (.goto 53, 3) := by decide +kernel
theorem dX12_which_55 : decode cX12_which 55 = .ok (.aload_n 0, 1) := by decide +kernel
theorem dX12_which_56 : decode cX12_which 56 = .ok (.getfield 7, 3) := by decide +kernel
theorem dX12_which_59 : decode cX12_which 59 = .ok (.bipush 9, 2) := by decide +kernel
theorem dX12_which_61 : decode cX12_which 61 = .ok (.iload 7, 2) := by decide +kernel
theorem dX12_which_63 : decode cX12_which 63 = .ok (.iadd, 1) := by decide +kernel
theorem dX12_which_64 : decode cX12_which 64 = .ok (.iconst 0, 1) := by decide +kernel
theorem dX12_which_65 : decode cX12_which 65 = .ok (.iastore, 1) := by decide +kernel
theorem dX12_which_66 : decode cX12_which 66 = .ok (.aload_n 0, 1) := by decide +kernel
theorem dX12_which_67 : decode cX12_which 67 = .ok (.iload_n 1, 1) := by decide +kernel
theorem dX12_which_68 : decode cX12_which 68 = .ok (.iload_n 2, 1) := by decide +kernel
theorem dX12_which_69 : decode cX12_which 69 = .ok (.iload_n 3, 1) := by decide +kernel
theorem dX12_which_70 : decode cX12_which 70 = .ok (.invokevirtual 390, 3) := by decide +kernel
theorem dX12_which_73 : decode cX12_which 73 = .ok (.lstore 8, 2) := by decide +kernel
theorem dX12_which_75 : decode cX12_which 75 = .ok (.aload_n 0, 1) := by decide +kernel
theorem dX12_which_76 : decode cX12_which 76 = .ok (.getfield 7, 3) := by decide +kernel
theorem dX12_which_79 : decode cX12_which 79 = .ok (.bipush 9, 2) := by decide +kernel
theorem dX12_which_81 : decode cX12_which 81 = .ok (.iload 7, 2) := by decide +kernel
theorem dX12_which_83 : decode cX12_which 83 = .ok (.iadd, 1) := by decide +kernel
theorem dX12_which_84 : decode cX12_which 84 = .ok (.iconst 1, 1) := by decide +kernel
theorem dX12_which_85 : decode cX12_which 85 = .ok (.iastore, 1) := by decide +kernel
theorem dX12_which_86 : decode cX12_which 86 = .ok (.lload 8, 2) := by decide +kernel
theorem dX12_which_88 : decode cX12_which 88 = .ok (.lload 5, 2) := by decide +kernel
theorem dX12_which_90 : decode cX12_which 90 = .ok (.lcmp, 1) := by decide +kernel
theorem dX12_which_91 : decode cX12_which 91 = .ok (.ifCond .gt 6, 3) := by decide +kernel
theorem dX12_which_94 : decode cX12_which 94 = .ok (.goto 11, 3) := by decide +kernel
theorem dX12_which_97 : decode cX12_which 97 = .ok (.lload 8, 2) := by decide +kernel
theorem dX12_which_99 : decode cX12_which 99 = .ok (.lstore 5, 2) := by decide +kernel
theorem dX12_which_101 : decode cX12_which 101 = .ok (.iload 7, 2) := by decide +kernel
theorem dX12_which_103 : decode cX12_which 103 = .ok (.istore 4, 2) := by decide +kernel
theorem dX12_which_105 : decode cX12_which 105 = .ok (.iinc 7 1, 3) := by decide +kernel
theorem dX12_which_108 : decode cX12_which 108 = .ok (.goto (-72), 3) := by decide +kernel
theorem dX12_which_111 : decode cX12_which 111 = .ok (.iload 4, 2) := by decide +kernel
theorem dX12_which_113 : decode cX12_which 113 = .ok (.ireturn, 1) := by decide +kernel
theorem dX12_nth_0 : decode cX12_nth 0 = .ok (.iload_n 1, 1) := by decide +kernel
theorem dX12_nth_1 : decode cX12_nth 1 = .ok (.invokestatic 73, 3) := by decide +kernel
theorem dX12_nth_4 : decode cX12_nth 4 = .ok (.ifCond .eq 13, 3) := by decide +kernel
theorem dX12_nth_7 : decode cX12_nth 7 = .ok (.iload_n 2, 1) := by decide +kernel
theorem dX12_nth_8 : decode cX12_nth 8 = .ok (.iconst 1, 1) := by decide +kernel
theorem dX12_nth_9 : decode cX12_nth 9 = .ok (.bipush 60, 2) := by decide +kernel
theorem dX12_nth_11 : decode cX12_nth 11 = .ok (.invokestatic 69, 3) := by decide +kernel
theorem dX12_nth_14 : decode cX12_nth 14 = .ok (.ifCond .ne 5, 3) := by decide +kernel
theorem dX12_nth_17 : decode cX12_nth 17 = .ok (.iconst (-1), 1) := by decide +kernel
theorem dX12_nth_18 : decode cX12_nth 18 = .ok (.ireturn, 1) := by decide +kernel
theorem dX12_nth_19 : decode cX12_nth 19 = .ok (.aload_n 0, 1) := by decide +kernel
theorem dX12_nth_20 : decode cX12_nth 20 = .ok (.iload_n 1, 1) := by decide +kernel
theorem dX12_nth_21 : decode cX12_nth 21 = .ok (.invokevirtual 376, 3) := by decide +kernel
theorem dX12_nth_24 : decode cX12_nth 24 = .ok (.iload_n 2, 1) := by decide +kernel
theorem dX12_nth_25 : decode cX12_nth 25 = .ok (.aload_n 0, 1) := by decide +kernel
theorem dX12_nth_26 : decode cX12_nth 26 = .ok (.getfield 373, 3) := by decide +kernel
theorem dX12_nth_29 : decode cX12_nth 29 = .ok (.if_icmp .gt 14, 3) := by decide +kernel
theorem dX12_nth_32 : decode cX12_nth 32 = .ok (.aload_n 0, 1) := by decide +kernel
theorem dX12_nth_33 : decode cX12_nth 33 = .ok (.getfield 50, 3) := by decide +kernel
theorem dX12_nth_36 : decode cX12_nth 36 = .ok (.iload_n 2, 1) := by decide +kernel
theorem dX12_nth_37 : decode cX12_nth 37 = .ok (.iconst 1, 1) := by decide +kernel
theorem dX12_nth_38 : decode cX12_nth 38 = .ok (.isub, 1) := by decide +kernel
theorem dX12_nth_39 : decode cX12_nth 39 = .ok (.iaload, 1) := by decide +kernel
theorem dX12_nth_40 : decode cX12_nth 40 = .ok (.goto 4, 3) := by decide +kernel
theorem dX12_nth_43 : decode cX12_nth 43 = .ok (.iconst (-1), 1) := by decide +kernel
theorem dX12_nth_44 : decode cX12_nth 44 = .ok (.ireturn, 1) := by decide +kernel
theorem dX12_value_0 : decode cX12_value 0 = .ok (.iload_n 1, 1) := by decide +kernel
theorem dX12_value_1 : decode cX12_value 1 = .ok (.iconst 0, 1) := by decide +kernel
theorem dX12_value_2 : decode cX12_value 2 = .ok (.bipush 12, 2) := by decide +kernel
theorem dX12_value_4 : decode cX12_value 4 = .ok (.invokestatic 69, 3) := by decide +kernel
theorem dX12_value_7 : decode cX12_value 7 = .ok (.ifCond .eq 13, 3) := by decide +kernel
theorem dX12_value_10 : decode cX12_value 10 = .ok (.iload_n 2, 1) := by decide +kernel
theorem dX12_value_11 : decode cX12_value 11 = .ok (.iconst 0, 1) := by decide +kernel
theorem dX12_value_12 : decode cX12_value 12 = .ok (.bipush 99, 2) := by decide +kernel
theorem dX12_value_14 : decode cX12_value 14 = .ok (.invokestatic 69, 3) := by decide +kernel
theorem dX12_value_17 : decode cX12_value 17 = .ok (.ifCond .ne 5, 3) := by decide +kernel
theorem dX12_value_20 : decode cX12_value 20 = .ok (.iconst 0, 1) := by decide +kernel
theorem dX12_value_21 : decode cX12_value 21 = .ok (.ireturn, 1) := by decide +kernel
theorem dX12_value_22 : decode cX12_value 22 = .ok (.aload_n 0, 1) := by decide +kernel
theorem dX12_value_23 : decode cX12_value 23 = .ok (.getfield 7, 3) := by decide +kernel
theorem dX12_value_26 : decode cX12_value 26 = .ok (.bipush 90, 2) := by decide +kernel
theorem dX12_value_28 : decode cX12_value 28 = .ok (.iload_n 1, 1) := by decide +kernel
theorem dX12_value_29 : decode cX12_value 29 = .ok (.iadd, 1) := by decide +kernel
theorem dX12_value_30 : decode cX12_value 30 = .ok (.iload_n 2, 1) := by decide +kernel
theorem dX12_value_31 : decode cX12_value 31 = .ok (.iastore, 1) := by decide +kernel
theorem dX12_value_32 : decode cX12_value 32 = .ok (.iconst 1, 1) := by decide +kernel
theorem dX12_value_33 : decode cX12_value 33 = .ok (.ireturn, 1) := by decide +kernel
theorem dX12_layWorths_0 : decode cX12_layWorths 0 = .ok (.aload_n 0, 1) := by decide +kernel
theorem dX12_layWorths_1 : decode cX12_layWorths 1 = .ok (.iload_n 2, 1) := by decide +kernel
theorem dX12_layWorths_2 : decode cX12_layWorths 2 = .ok (.invokevirtual 376, 3) := by decide +kernel
theorem dX12_layWorths_5 : decode cX12_layWorths 5 = .ok (.aload_n 0, 1) := by decide +kernel
theorem dX12_layWorths_6 : decode cX12_layWorths 6 = .ok (.getfield 373, 3) := by decide +kernel
theorem dX12_layWorths_9 : decode cX12_layWorths 9 = .ok (.bipush 12, 2) := by decide +kernel
theorem dX12_layWorths_11 : decode cX12_layWorths 11 = .ok (.if_icmp .ge 10, 3) := by decide +kernel
theorem dX12_layWorths_14 : decode cX12_layWorths 14 = .ok (.aload_n 0, 1) := by decide +kernel
theorem dX12_layWorths_15 : decode cX12_layWorths 15 = .ok (.getfield 373, 3) := by decide +kernel
theorem dX12_layWorths_18 : decode cX12_layWorths 18 = .ok (.goto 5, 3) := by decide +kernel
theorem dX12_layWorths_21 : decode cX12_layWorths 21 = .ok (.bipush 12, 2) := by decide +kernel
theorem dX12_layWorths_23 : decode cX12_layWorths 23 = .ok (.istore_n 3, 1) := by decide +kernel
theorem dX12_layWorths_24 : decode cX12_layWorths 24 = .ok (.aload_n 0, 1) := by decide +kernel
theorem dX12_layWorths_25 : decode cX12_layWorths 25 = .ok (.getfield 53, 3) := by decide +kernel
theorem dX12_layWorths_28 : decode cX12_layWorths 28 = .ok (.iload_n 3, 1) := by decide +kernel
theorem dX12_layWorths_29 : decode cX12_layWorths 29 = .ok (.aload_n 0, 1) := by decide +kernel
theorem dX12_layWorths_30 : decode cX12_layWorths 30 = .ok (.getfield 7, 3) := by decide +kernel
theorem dX12_layWorths_33 : decode cX12_layWorths 33 = .ok (.bipush 90, 2) := by decide +kernel
theorem dX12_layWorths_35 : decode cX12_layWorths 35 = .ok (.iload_n 3, 1) := by decide +kernel
theorem dX12_layWorths_36 : decode cX12_layWorths 36 = .ok (.iadd, 1) := by decide +kernel
theorem dX12_layWorths_37 : decode cX12_layWorths 37 = .ok (.iaload, 1) := by decide +kernel
theorem dX12_layWorths_38 : decode cX12_layWorths 38 = .ok (.i2l, 1) := by decide +kernel
theorem dX12_layWorths_39 : decode cX12_layWorths 39 = .ok (.lastore, 1) := by decide +kernel
theorem dX12_layWorths_40 : decode cX12_layWorths 40 = .ok (.iload_n 3, 1) := by decide +kernel
theorem dX12_layWorths_41 : decode cX12_layWorths 41 = .ok (.iconst 1, 1) := by decide +kernel
theorem dX12_layWorths_42 : decode cX12_layWorths 42 = .ok (.isub, 1) := by decide +kernel
theorem dX12_layWorths_43 : decode cX12_layWorths 43 = .ok (.istore 4, 2) := by decide +kernel
theorem dX12_layWorths_45 : decode cX12_layWorths 45 = .ok (.iload 4, 2) := by decide +kernel
theorem dX12_layWorths_47 : decode cX12_layWorths 47 = .ok (.ifCond .lt 77, 3) := by decide +kernel
theorem dX12_layWorths_50 : decode cX12_layWorths 50 = .ok (.aload_n 0, 1) := by decide +kernel
theorem dX12_layWorths_51 : decode cX12_layWorths 51 = .ok (.getfield 7, 3) := by decide +kernel
theorem dX12_layWorths_54 : decode cX12_layWorths 54 = .ok (.bipush 90, 2) := by decide +kernel
theorem dX12_layWorths_56 : decode cX12_layWorths 56 = .ok (.iload 4, 2) := by decide +kernel
theorem dX12_layWorths_58 : decode cX12_layWorths 58 = .ok (.iadd, 1) := by decide +kernel
theorem dX12_layWorths_59 : decode cX12_layWorths 59 = .ok (.iaload, 1) := by decide +kernel
theorem dX12_layWorths_60 : decode cX12_layWorths 60 = .ok (.i2l, 1) := by decide +kernel
theorem dX12_layWorths_61 : decode cX12_layWorths 61 = .ok (.iload_n 3, 1) := by decide +kernel
theorem dX12_layWorths_62 : decode cX12_layWorths 62 = .ok (.iload 4, 2) := by decide +kernel
theorem dX12_layWorths_64 : decode cX12_layWorths 64 = .ok (.isub, 1) := by decide +kernel
theorem dX12_layWorths_65 : decode cX12_layWorths 65 = .ok (.invokestatic 393, 3) := by decide +kernel
theorem dX12_layWorths_68 : decode cX12_layWorths 68 = .ok (.lmul, 1) := by decide +kernel
theorem dX12_layWorths_69 : decode cX12_layWorths 69 = .ok (.lstore 5, 2) := by decide +kernel
theorem dX12_layWorths_71 : decode cX12_layWorths 71 = .ok (.aload_n 0, 1) := by decide +kernel
theorem dX12_layWorths_72 : decode cX12_layWorths 72 = .ok (.getfield 53, 3) := by decide +kernel
theorem dX12_layWorths_75 : decode cX12_layWorths 75 = .ok (.iload 4, 2) := by decide +kernel
theorem dX12_layWorths_77 : decode cX12_layWorths 77 = .ok (.iconst 1, 1) := by decide +kernel
theorem dX12_layWorths_78 : decode cX12_layWorths 78 = .ok (.iadd, 1) := by decide +kernel
theorem dX12_layWorths_79 : decode cX12_layWorths 79 = .ok (.laload, 1) := by decide +kernel
theorem dX12_layWorths_80 : decode cX12_layWorths 80 = .ok (.bipush 10, 2) := by decide +kernel
theorem dX12_layWorths_82 : decode cX12_layWorths 82 = .ok (.aload_n 0, 1) := by decide +kernel
theorem dX12_layWorths_83 : decode cX12_layWorths 83 = .ok (.iload_n 1, 1) := by decide +kernel
theorem dX12_layWorths_84 : decode cX12_layWorths 84 = .ok (.iload 4, 2) := by decide +kernel
theorem dX12_layWorths_86 : decode cX12_layWorths 86 = .ok (.iconst 1, 1) := by decide +kernel
theorem dX12_layWorths_87 : decode cX12_layWorths 87 = .ok (.iadd, 1) := by decide +kernel
theorem dX12_layWorths_88 : decode cX12_layWorths 88 = .ok (.invokevirtual 379, 3) := by decide +kernel
theorem dX12_layWorths_91 : decode cX12_layWorths 91 = .ok (.isub, 1) := by decide +kernel
theorem dX12_layWorths_92 : decode cX12_layWorths 92 = .ok (.i2l, 1) := by decide +kernel
theorem dX12_layWorths_93 : decode cX12_layWorths 93 = .ok (.lmul, 1) := by decide +kernel
theorem dX12_layWorths_94 : decode cX12_layWorths 94 = .ok (.lstore 7, 2) := by decide +kernel
theorem dX12_layWorths_96 : decode cX12_layWorths 96 = .ok (.aload_n 0, 1) := by decide +kernel
theorem dX12_layWorths_97 : decode cX12_layWorths 97 = .ok (.getfield 53, 3) := by decide +kernel
theorem dX12_layWorths_100 : decode cX12_layWorths 100 = .ok (.iload 4, 2) := by decide +kernel
theorem dX12_layWorths_102 : decode cX12_layWorths 102 = .ok (.lload 7, 2) := by decide +kernel
theorem dX12_layWorths_104 : decode cX12_layWorths 104 = .ok (.lload 5, 2) := by decide +kernel
theorem dX12_layWorths_106 : decode cX12_layWorths 106 = .ok (.lcmp, 1) := by decide +kernel
theorem dX12_layWorths_107 : decode cX12_layWorths 107 = .ok (.ifCond .le 8, 3) := by decide +kernel
theorem dX12_layWorths_110 : decode cX12_layWorths 110 = .ok (.lload 7, 2) := by decide +kernel
theorem dX12_layWorths_112 : decode cX12_layWorths 112 = .ok (.goto 5, 3) := by decide +kernel
theorem dX12_layWorths_115 : decode cX12_layWorths 115 = .ok (.lload 5, 2) := by decide +kernel
theorem dX12_layWorths_117 : decode cX12_layWorths 117 = .ok (.lastore, 1) := by decide +kernel
theorem dX12_layWorths_118 : decode cX12_layWorths 118 = .ok (.iinc 4 (-1), 3) := by decide +kernel
theorem dX12_layWorths_121 : decode cX12_layWorths 121 = .ok (.goto (-76), 3) := by decide +kernel
theorem dX12_layWorths_124 : decode cX12_layWorths 124 = .ok (.iload_n 3, 1) := by decide +kernel
theorem dX12_layWorths_125 : decode cX12_layWorths 125 = .ok (.ireturn, 1) := by decide +kernel
theorem dX12_worth_0 : decode cX12_worth 0 = .ok (.aload_n 0, 1) := by decide +kernel
theorem dX12_worth_1 : decode cX12_worth 1 = .ok (.iload_n 1, 1) := by decide +kernel
theorem dX12_worth_2 : decode cX12_worth 2 = .ok (.iload_n 2, 1) := by decide +kernel
theorem dX12_worth_3 : decode cX12_worth 3 = .ok (.invokevirtual 387, 3) := by decide +kernel
theorem dX12_worth_6 : decode cX12_worth 6 = .ok (.ifCond .ne 7, 3) := by decide +kernel
theorem dX12_worth_9 : decode cX12_worth 9 = .ok (.ldc2_w 401, 3) := by decide +kernel
theorem dX12_worth_12 : decode cX12_worth 12 = .ok (.lreturn, 1) := by decide +kernel
theorem dX12_worth_13 : decode cX12_worth 13 = .ok (.aload_n 0, 1) := by decide +kernel
theorem dX12_worth_14 : decode cX12_worth 14 = .ok (.iload_n 1, 1) := by decide +kernel
theorem dX12_worth_15 : decode cX12_worth 15 = .ok (.iload_n 2, 1) := by decide +kernel
theorem dX12_worth_16 : decode cX12_worth 16 = .ok (.invokevirtual 403, 3) := by decide +kernel
theorem dX12_worth_19 : decode cX12_worth 19 = .ok (.istore 4, 2) := by decide +kernel
theorem dX12_worth_21 : decode cX12_worth 21 = .ok (.aload_n 0, 1) := by decide +kernel
theorem dX12_worth_22 : decode cX12_worth 22 = .ok (.getfield 53, 3) := by decide +kernel
theorem dX12_worth_25 : decode cX12_worth 25 = .ok (.iconst 0, 1) := by decide +kernel
theorem dX12_worth_26 : decode cX12_worth 26 = .ok (.laload, 1) := by decide +kernel
theorem dX12_worth_27 : decode cX12_worth 27 = .ok (.iload 4, 2) := by decide +kernel
theorem dX12_worth_29 : decode cX12_worth 29 = .ok (.invokestatic 393, 3) := by decide +kernel
theorem dX12_worth_32 : decode cX12_worth 32 = .ok (.iload_n 3, 1) := by decide +kernel
theorem dX12_worth_33 : decode cX12_worth 33 = .ok (.invokestatic 397, 3) := by decide +kernel
theorem dX12_worth_36 : decode cX12_worth 36 = .ok (.lreturn, 1) := by decide +kernel
theorem dX12_goesOn_0 : decode cX12_goesOn 0 = .ok (.aload_n 0, 1) := by decide +kernel
theorem dX12_goesOn_1 : decode cX12_goesOn 1 = .ok (.iload_n 1, 1) := by decide +kernel
theorem dX12_goesOn_2 : decode cX12_goesOn 2 = .ok (.iload_n 2, 1) := by decide +kernel
theorem dX12_goesOn_3 : decode cX12_goesOn 3 = .ok (.invokevirtual 387, 3) := by decide +kernel
theorem dX12_goesOn_6 : decode cX12_goesOn 6 = .ok (.ifCond .eq 13, 3) := by decide +kernel
theorem dX12_goesOn_9 : decode cX12_goesOn 9 = .ok (.iload_n 3, 1) := by decide +kernel
theorem dX12_goesOn_10 : decode cX12_goesOn 10 = .ok (.iconst 0, 1) := by decide +kernel
theorem dX12_goesOn_11 : decode cX12_goesOn 11 = .ok (.bipush 11, 2) := by decide +kernel
theorem dX12_goesOn_13 : decode cX12_goesOn 13 = .ok (.invokestatic 69, 3) := by decide +kernel
theorem dX12_goesOn_16 : decode cX12_goesOn 16 = .ok (.ifCond .ne 5, 3) := by decide +kernel
theorem dX12_goesOn_19 : decode cX12_goesOn 19 = .ok (.iconst (-1), 1) := by decide +kernel
theorem dX12_goesOn_20 : decode cX12_goesOn 20 = .ok (.ireturn, 1) := by decide +kernel
theorem dX12_goesOn_21 : decode cX12_goesOn 21 = .ok (.aload_n 0, 1) := by decide +kernel
theorem dX12_goesOn_22 : decode cX12_goesOn 22 = .ok (.iload_n 1, 1) := by decide +kernel
theorem dX12_goesOn_23 : decode cX12_goesOn 23 = .ok (.iload_n 2, 1) := by decide +kernel
theorem dX12_goesOn_24 : decode cX12_goesOn 24 = .ok (.invokevirtual 403, 3) := by decide +kernel
theorem dX12_goesOn_27 : decode cX12_goesOn 27 = .ok (.istore 4, 2) := by decide +kernel
theorem dX12_goesOn_29 : decode cX12_goesOn 29 = .ok (.iload_n 3, 1) := by decide +kernel
theorem dX12_goesOn_30 : decode cX12_goesOn 30 = .ok (.iload 4, 2) := by decide +kernel
theorem dX12_goesOn_32 : decode cX12_goesOn 32 = .ok (.if_icmp .lt 5, 3) := by decide +kernel
theorem dX12_goesOn_35 : decode cX12_goesOn 35 = .ok (.iconst (-1), 1) := by decide +kernel
theorem dX12_goesOn_36 : decode cX12_goesOn 36 = .ok (.ireturn, 1) := by decide +kernel
theorem dX12_goesOn_37 : decode cX12_goesOn 37 = .ok (.aload_n 0, 1) := by decide +kernel
theorem dX12_goesOn_38 : decode cX12_goesOn 38 = .ok (.getfield 53, 3) := by decide +kernel
theorem dX12_goesOn_41 : decode cX12_goesOn 41 = .ok (.iload_n 3, 1) := by decide +kernel
theorem dX12_goesOn_42 : decode cX12_goesOn 42 = .ok (.iconst 1, 1) := by decide +kernel
theorem dX12_goesOn_43 : decode cX12_goesOn 43 = .ok (.iadd, 1) := by decide +kernel
theorem dX12_goesOn_44 : decode cX12_goesOn 44 = .ok (.laload, 1) := by decide +kernel
theorem dX12_goesOn_45 : decode cX12_goesOn 45 = .ok (.bipush 10, 2) := by decide +kernel
theorem dX12_goesOn_47 : decode cX12_goesOn 47 = .ok (.aload_n 0, 1) := by decide +kernel
theorem dX12_goesOn_48 : decode cX12_goesOn 48 = .ok (.iload_n 1, 1) := by decide +kernel
theorem dX12_goesOn_49 : decode cX12_goesOn 49 = .ok (.iload_n 3, 1) := by decide +kernel
theorem dX12_goesOn_50 : decode cX12_goesOn 50 = .ok (.iconst 1, 1) := by decide +kernel
theorem dX12_goesOn_51 : decode cX12_goesOn 51 = .ok (.iadd, 1) := by decide +kernel
theorem dX12_goesOn_52 : decode cX12_goesOn 52 = .ok (.invokevirtual 379, 3) := by decide +kernel
theorem dX12_goesOn_55 : decode cX12_goesOn 55 = .ok (.isub, 1) := by decide +kernel
theorem dX12_goesOn_56 : decode cX12_goesOn 56 = .ok (.i2l, 1) := by decide +kernel
theorem dX12_goesOn_57 : decode cX12_goesOn 57 = .ok (.lmul, 1) := by decide +kernel
theorem dX12_goesOn_58 : decode cX12_goesOn 58 = .ok (.aload_n 0, 1) := by decide +kernel
theorem dX12_goesOn_59 : decode cX12_goesOn 59 = .ok (.getfield 7, 3) := by decide +kernel
theorem dX12_goesOn_62 : decode cX12_goesOn 62 = .ok (.bipush 90, 2) := by decide +kernel
theorem dX12_goesOn_64 : decode cX12_goesOn 64 = .ok (.iload_n 3, 1) := by decide +kernel
theorem dX12_goesOn_65 : decode cX12_goesOn 65 = .ok (.iadd, 1) := by decide +kernel
theorem dX12_goesOn_66 : decode cX12_goesOn 66 = .ok (.iaload, 1) := by decide +kernel
theorem dX12_goesOn_67 : decode cX12_goesOn 67 = .ok (.i2l, 1) := by decide +kernel
theorem dX12_goesOn_68 : decode cX12_goesOn 68 = .ok (.iload 4, 2) := by decide +kernel
theorem dX12_goesOn_70 : decode cX12_goesOn 70 = .ok (.iload_n 3, 1) := by decide +kernel
theorem dX12_goesOn_71 : decode cX12_goesOn 71 = .ok (.isub, 1) := by decide +kernel
theorem dX12_goesOn_72 : decode cX12_goesOn 72 = .ok (.invokestatic 393, 3) := by decide +kernel
theorem dX12_goesOn_75 : decode cX12_goesOn 75 = .ok (.lmul, 1) := by decide +kernel
theorem dX12_goesOn_76 : decode cX12_goesOn 76 = .ok (.lcmp, 1) := by decide +kernel
theorem dX12_goesOn_77 : decode cX12_goesOn 77 = .ok (.ifCond .le 7, 3) := by decide +kernel
theorem dX12_goesOn_80 : decode cX12_goesOn 80 = .ok (.iconst 1, 1) := by decide +kernel
theorem dX12_goesOn_81 : decode cX12_goesOn 81 = .ok (.goto 4, 3) := by decide +kernel
theorem dX12_goesOn_84 : decode cX12_goesOn 84 = .ok (.iconst 0, 1) := by decide +kernel
theorem dX12_goesOn_85 : decode cX12_goesOn 85 = .ok (.ireturn, 1) := by decide +kernel
theorem dX12_best_0 : decode cX12_best 0 = .ok (.aload_n 0, 1) := by decide +kernel
theorem dX12_best_1 : decode cX12_best 1 = .ok (.iload_n 1, 1) := by decide +kernel
theorem dX12_best_2 : decode cX12_best 2 = .ok (.invokevirtual 322, 3) := by decide +kernel
theorem dX12_best_5 : decode cX12_best 5 = .ok (.ifCond .ne 5, 3) := by decide +kernel
theorem dX12_best_8 : decode cX12_best 8 = .ok (.iconst (-1), 1) := by decide +kernel
theorem dX12_best_9 : decode cX12_best 9 = .ok (.ireturn, 1) := by decide +kernel
theorem dX12_best_10 : decode cX12_best 10 = .ok (.iconst 0, 1) := by decide +kernel
theorem dX12_best_11 : decode cX12_best 11 = .ok (.istore_n 2, 1) := by decide +kernel
theorem dX12_best_12 : decode cX12_best 12 = .ok (.ldc2_w 401, 3) := by decide +kernel
theorem dX12_best_15 : decode cX12_best 15 = .ok (.lstore_n 3, 1) := by decide +kernel
theorem dX12_best_16 : decode cX12_best 16 = .ok (.iconst 0, 1) := by decide +kernel
theorem dX12_best_17 : decode cX12_best 17 = .ok (.istore 5, 2) := by decide +kernel
theorem dX12_best_19 : decode cX12_best 19 = .ok (.iload 5, 2) := by decide +kernel
theorem dX12_best_21 : decode cX12_best 21 = .ok (.bipush 30, 2) := by decide +kernel
theorem dX12_best_23 : decode cX12_best 23 = .ok (.if_icmp .ge 51, 3) := by decide +kernel
theorem dX12_best_26 : decode cX12_best 26 = .ok (.aload_n 0, 1) := by decide +kernel
theorem dX12_best_27 : decode cX12_best 27 = .ok (.iload_n 1, 1) := by decide +kernel
theorem dX12_best_28 : decode cX12_best 28 = .ok (.iload 5, 2) := by decide +kernel
theorem dX12_best_30 : decode cX12_best 30 = .ok (.invokevirtual 403, 3) := by decide +kernel
theorem dX12_best_33 : decode cX12_best 33 = .ok (.istore 6, 2) := by decide +kernel
theorem dX12_best_35 : decode cX12_best 35 = .ok (.aload_n 0, 1) := by decide +kernel
theorem dX12_best_36 : decode cX12_best 36 = .ok (.getfield 53, 3) := by decide +kernel
theorem dX12_best_39 : decode cX12_best 39 = .ok (.iconst 0, 1) := by decide +kernel
theorem dX12_best_40 : decode cX12_best 40 = .ok (.laload, 1) := by decide +kernel
theorem dX12_best_41 : decode cX12_best 41 = .ok (.bipush 12, 2) := by decide +kernel
theorem dX12_best_43 : decode cX12_best 43 = .ok (.iload 6, 2) := by decide +kernel
theorem dX12_best_45 : decode cX12_best 45 = .ok (.isub, 1) := by decide +kernel
theorem dX12_best_46 : decode cX12_best 46 = .ok (.invokestatic 393, 3) := by decide +kernel
theorem dX12_best_49 : decode cX12_best 49 = .ok (.lmul, 1) := by decide +kernel
theorem dX12_best_50 : decode cX12_best 50 = .ok (.lstore 7, 2) := by decide +kernel
theorem dX12_best_52 : decode cX12_best 52 = .ok (.lload 7, 2) := by decide +kernel
theorem dX12_best_54 : decode cX12_best 54 = .ok (.lload_n 3, 1) := by decide +kernel
theorem dX12_best_55 : decode cX12_best 55 = .ok (.lcmp, 1) := by decide +kernel
theorem dX12_best_56 : decode cX12_best 56 = .ok (.ifCond .gt 6, 3) := by decide +kernel
theorem dX12_best_59 : decode cX12_best 59 = .ok (.goto 9, 3) := by decide +kernel
theorem dX12_best_62 : decode cX12_best 62 = .ok (.lload 7, 2) := by decide +kernel
theorem dX12_best_64 : decode cX12_best 64 = .ok (.lstore_n 3, 1) := by decide +kernel
theorem dX12_best_65 : decode cX12_best 65 = .ok (.iload 5, 2) := by decide +kernel
theorem dX12_best_67 : decode cX12_best 67 = .ok (.istore_n 2, 1) := by decide +kernel
theorem dX12_best_68 : decode cX12_best 68 = .ok (.iinc 5 1, 3) := by decide +kernel
theorem dX12_best_71 : decode cX12_best 71 = .ok (.goto (-52), 3) := by decide +kernel
theorem dX12_best_74 : decode cX12_best 74 = .ok (.iload_n 2, 1) := by decide +kernel
theorem dX12_best_75 : decode cX12_best 75 = .ok (.ireturn, 1) := by decide +kernel
theorem dX12_tell_0 : decode cX12_tell 0 = .ok (.iload_n 1, 1) := by decide +kernel
theorem dX12_tell_1 : decode cX12_tell 1 = .ok (.iconst (-1), 1) := by decide +kernel
theorem dX12_tell_2 : decode cX12_tell 2 = .ok (.if_icmp .ne 12, 3) := by decide +kernel
theorem dX12_tell_5 : decode cX12_tell 5 = .ok (.aload_n 0, 1) := by decide +kernel
theorem dX12_tell_6 : decode cX12_tell 6 = .ok (.getfield 7, 3) := by decide +kernel
theorem dX12_tell_9 : decode cX12_tell 9 = .ok (.iconst 4, 1) := by decide +kernel
theorem dX12_tell_10 : decode cX12_tell 10 = .ok (.iconst 0, 1) := by decide +kernel
theorem dX12_tell_11 : decode cX12_tell 11 = .ok (.iastore, 1) := by decide +kernel
theorem dX12_tell_12 : decode cX12_tell 12 = .ok (.iconst 0, 1) := by decide +kernel
theorem dX12_tell_13 : decode cX12_tell 13 = .ok (.ireturn, 1) := by decide +kernel
theorem dX12_tell_14 : decode cX12_tell 14 = .ok (.iload_n 1, 1) := by decide +kernel
theorem dX12_tell_15 : decode cX12_tell 15 = .ok (.iconst 0, 1) := by decide +kernel
theorem dX12_tell_16 : decode cX12_tell 16 = .ok (.bipush 11, 2) := by decide +kernel
theorem dX12_tell_18 : decode cX12_tell 18 = .ok (.invokestatic 69, 3) := by decide +kernel
theorem dX12_tell_21 : decode cX12_tell 21 = .ok (.ifCond .eq 36, 3) := by decide +kernel
theorem dX12_tell_24 : decode cX12_tell 24 = .ok (.iload_n 2, 1) := by decide +kernel
theorem dX12_tell_25 : decode cX12_tell 25 = .ok (.iconst 1, 1) := by decide +kernel
theorem dX12_tell_26 : decode cX12_tell 26 = .ok (.bipush 12, 2) := by decide +kernel
theorem dX12_tell_28 : decode cX12_tell 28 = .ok (.iload_n 1, 1) := by decide +kernel
theorem dX12_tell_29 : decode cX12_tell 29 = .ok (.isub, 1) := by decide +kernel
theorem dX12_tell_30 : decode cX12_tell 30 = .ok (.invokestatic 69, 3) := by decide +kernel
theorem dX12_tell_33 : decode cX12_tell 33 = .ok (.ifCond .eq 24, 3) := by decide +kernel
theorem dX12_tell_36 : decode cX12_tell 36 = .ok (.iload_n 3, 1) := by decide +kernel
theorem dX12_tell_37 : decode cX12_tell 37 = .ok (.iconst 0, 1) := by decide +kernel
theorem dX12_tell_38 : decode cX12_tell 38 = .ok (.bipush 12, 2) := by decide +kernel
theorem dX12_tell_40 : decode cX12_tell 40 = .ok (.invokestatic 69, 3) := by decide +kernel
theorem dX12_tell_43 : decode cX12_tell 43 = .ok (.ifCond .eq 14, 3) := by decide +kernel
theorem dX12_tell_46 : decode cX12_tell 46 = .ok (.aload_n 0, 1) := by decide +kernel
theorem dX12_tell_47 : decode cX12_tell 47 = .ok (.getfield 7, 3) := by decide +kernel
theorem dX12_tell_50 : decode cX12_tell 50 = .ok (.iconst 4, 1) := by decide +kernel
theorem dX12_tell_51 : decode cX12_tell 51 = .ok (.iaload, 1) := by decide +kernel
theorem dX12_tell_52 : decode cX12_tell 52 = .ok (.bipush 6, 2) := by decide +kernel
theorem dX12_tell_54 : decode cX12_tell 54 = .ok (.if_icmp .ne 6, 3) := by decide +kernel
theorem dX12_tell_57 : decode cX12_tell 57 = .ok (.bipush (-2), 2) := by decide +kernel
theorem dX12_tell_59 : decode cX12_tell 59 = .ok (.ireturn, 1) := by decide +kernel
theorem dX12_tell_60 : decode cX12_tell 60 = .ok (.bipush 103, 2) := by decide +kernel
theorem dX12_tell_62 : decode cX12_tell 62 = .ok (.iconst 3, 1) := by decide +kernel
theorem dX12_tell_63 : decode cX12_tell 63 = .ok (.aload_n 0, 1) := by decide +kernel
theorem dX12_tell_64 : decode cX12_tell 64 = .ok (.getfield 7, 3) := by decide +kernel
theorem dX12_tell_67 : decode cX12_tell 67 = .ok (.iconst 4, 1) := by decide +kernel
theorem dX12_tell_68 : decode cX12_tell 68 = .ok (.iaload, 1) := by decide +kernel
theorem dX12_tell_69 : decode cX12_tell 69 = .ok (.imul, 1) := by decide +kernel
theorem dX12_tell_70 : decode cX12_tell 70 = .ok (.iadd, 1) := by decide +kernel
theorem dX12_tell_71 : decode cX12_tell 71 = .ok (.istore 4, 2) := by decide +kernel
theorem dX12_tell_73 : decode cX12_tell 73 = .ok (.aload_n 0, 1) := by decide +kernel
theorem dX12_tell_74 : decode cX12_tell 74 = .ok (.getfield 7, 3) := by decide +kernel
theorem dX12_tell_77 : decode cX12_tell 77 = .ok (.iload 4, 2) := by decide +kernel
theorem dX12_tell_79 : decode cX12_tell 79 = .ok (.iload_n 1, 1) := by decide +kernel
theorem dX12_tell_80 : decode cX12_tell 80 = .ok (.iastore, 1) := by decide +kernel
theorem dX12_tell_81 : decode cX12_tell 81 = .ok (.aload_n 0, 1) := by decide +kernel
theorem dX12_tell_82 : decode cX12_tell 82 = .ok (.getfield 7, 3) := by decide +kernel
theorem dX12_tell_85 : decode cX12_tell 85 = .ok (.iload 4, 2) := by decide +kernel
theorem dX12_tell_87 : decode cX12_tell 87 = .ok (.iconst 1, 1) := by decide +kernel
theorem dX12_tell_88 : decode cX12_tell 88 = .ok (.iadd, 1) := by decide +kernel
theorem dX12_tell_89 : decode cX12_tell 89 = .ok (.iload_n 2, 1) := by decide +kernel
theorem dX12_tell_90 : decode cX12_tell 90 = .ok (.iastore, 1) := by decide +kernel
theorem dX12_tell_91 : decode cX12_tell 91 = .ok (.aload_n 0, 1) := by decide +kernel
theorem dX12_tell_92 : decode cX12_tell 92 = .ok (.getfield 7, 3) := by decide +kernel
theorem dX12_tell_95 : decode cX12_tell 95 = .ok (.iload 4, 2) := by decide +kernel
theorem dX12_tell_97 : decode cX12_tell 97 = .ok (.iconst 2, 1) := by decide +kernel
theorem dX12_tell_98 : decode cX12_tell 98 = .ok (.iadd, 1) := by decide +kernel
theorem dX12_tell_99 : decode cX12_tell 99 = .ok (.iload_n 3, 1) := by decide +kernel
theorem dX12_tell_100 : decode cX12_tell 100 = .ok (.iastore, 1) := by decide +kernel
theorem dX12_tell_101 : decode cX12_tell 101 = .ok (.aload_n 0, 1) := by decide +kernel
theorem dX12_tell_102 : decode cX12_tell 102 = .ok (.getfield 7, 3) := by decide +kernel
theorem dX12_tell_105 : decode cX12_tell 105 = .ok (.iconst 4, 1) := by decide +kernel
theorem dX12_tell_106 : decode cX12_tell 106 = .ok (.dup2, 1) := by decide +kernel
theorem dX12_tell_107 : decode cX12_tell 107 = .ok (.iaload, 1) := by decide +kernel
theorem dX12_tell_108 : decode cX12_tell 108 = .ok (.iconst 1, 1) := by decide +kernel
theorem dX12_tell_109 : decode cX12_tell 109 = .ok (.iadd, 1) := by decide +kernel
theorem dX12_tell_110 : decode cX12_tell 110 = .ok (.iastore, 1) := by decide +kernel
theorem dX12_tell_111 : decode cX12_tell 111 = .ok (.aload_n 0, 1) := by decide +kernel
theorem dX12_tell_112 : decode cX12_tell 112 = .ok (.getfield 7, 3) := by decide +kernel
theorem dX12_tell_115 : decode cX12_tell 115 = .ok (.iconst 4, 1) := by decide +kernel
theorem dX12_tell_116 : decode cX12_tell 116 = .ok (.iaload, 1) := by decide +kernel
theorem dX12_tell_117 : decode cX12_tell 117 = .ok (.ireturn, 1) := by decide +kernel
theorem dX12_manyIn_0 : decode cX12_manyIn 0 = .ok (.iload_n 0, 1) := by decide +kernel
theorem dX12_manyIn_1 : decode cX12_manyIn 1 = .ok (.iload_n 1, 1) := by decide +kernel
theorem dX12_manyIn_2 : decode cX12_manyIn 2 = .ok (.ishr, 1) := by decide +kernel
theorem dX12_manyIn_3 : decode cX12_manyIn 3 = .ok (.iconst 1, 1) := by decide +kernel
theorem dX12_manyIn_4 : decode cX12_manyIn 4 = .ok (.iload_n 2, 1) := by decide +kernel
theorem dX12_manyIn_5 : decode cX12_manyIn 5 = .ok (.ishl, 1) := by decide +kernel
theorem dX12_manyIn_6 : decode cX12_manyIn 6 = .ok (.iconst 1, 1) := by decide +kernel
theorem dX12_manyIn_7 : decode cX12_manyIn 7 = .ok (.isub, 1) := by decide +kernel
theorem dX12_manyIn_8 : decode cX12_manyIn 8 = .ok (.iand, 1) := by decide +kernel
theorem dX12_manyIn_9 : decode cX12_manyIn 9 = .ok (.invokestatic 406, 3) := by decide +kernel
theorem dX12_manyIn_12 : decode cX12_manyIn 12 = .ok (.ireturn, 1) := by decide +kernel
theorem dX12_canBe_0 : decode cX12_canBe 0 = .ok (.bipush 103, 2) := by decide +kernel
theorem dX12_canBe_2 : decode cX12_canBe 2 = .ok (.istore_n 3, 1) := by decide +kernel
theorem dX12_canBe_3 : decode cX12_canBe 3 = .ok (.iload_n 3, 1) := by decide +kernel
theorem dX12_canBe_4 : decode cX12_canBe 4 = .ok (.bipush 103, 2) := by decide +kernel
theorem dX12_canBe_6 : decode cX12_canBe 6 = .ok (.iconst 3, 1) := by decide +kernel
theorem dX12_canBe_7 : decode cX12_canBe 7 = .ok (.aload_n 0, 1) := by decide +kernel
theorem dX12_canBe_8 : decode cX12_canBe 8 = .ok (.getfield 7, 3) := by decide +kernel
theorem dX12_canBe_11 : decode cX12_canBe 11 = .ok (.iconst 4, 1) := by decide +kernel
theorem dX12_canBe_12 : decode cX12_canBe 12 = .ok (.iaload, 1) := by decide +kernel
theorem dX12_canBe_13 : decode cX12_canBe 13 = .ok (.imul, 1) := by decide +kernel
theorem dX12_canBe_14 : decode cX12_canBe 14 = .ok (.iadd, 1) := by decide +kernel
theorem dX12_canBe_15 : decode cX12_canBe 15 = .ok (.if_icmp .ge 47, 3) := by decide +kernel
theorem dX12_canBe_18 : decode cX12_canBe 18 = .ok (.iload_n 1, 1) := by decide +kernel
theorem dX12_canBe_19 : decode cX12_canBe 19 = .ok (.aload_n 0, 1) := by decide +kernel
theorem dX12_canBe_20 : decode cX12_canBe 20 = .ok (.getfield 7, 3) := by decide +kernel
theorem dX12_canBe_23 : decode cX12_canBe 23 = .ok (.iload_n 3, 1) := by decide +kernel
theorem dX12_canBe_24 : decode cX12_canBe 24 = .ok (.iaload, 1) := by decide +kernel
theorem dX12_canBe_25 : decode cX12_canBe 25 = .ok (.aload_n 0, 1) := by decide +kernel
theorem dX12_canBe_26 : decode cX12_canBe 26 = .ok (.getfield 7, 3) := by decide +kernel
theorem dX12_canBe_29 : decode cX12_canBe 29 = .ok (.iload_n 3, 1) := by decide +kernel
theorem dX12_canBe_30 : decode cX12_canBe 30 = .ok (.iconst 1, 1) := by decide +kernel
theorem dX12_canBe_31 : decode cX12_canBe 31 = .ok (.iadd, 1) := by decide +kernel
theorem dX12_canBe_32 : decode cX12_canBe 32 = .ok (.iaload, 1) := by decide +kernel
theorem dX12_canBe_33 : decode cX12_canBe 33 = .ok (.invokestatic 409, 3) := by decide +kernel
theorem dX12_canBe_36 : decode cX12_canBe 36 = .ok (.aload_n 0, 1) := by decide +kernel
theorem dX12_canBe_37 : decode cX12_canBe 37 = .ok (.getfield 7, 3) := by decide +kernel
theorem dX12_canBe_40 : decode cX12_canBe 40 = .ok (.iload_n 3, 1) := by decide +kernel
theorem dX12_canBe_41 : decode cX12_canBe 41 = .ok (.iconst 2, 1) := by decide +kernel
theorem dX12_canBe_42 : decode cX12_canBe 42 = .ok (.iadd, 1) := by decide +kernel
theorem dX12_canBe_43 : decode cX12_canBe 43 = .ok (.iaload, 1) := by decide +kernel
theorem dX12_canBe_44 : decode cX12_canBe 44 = .ok (.isub, 1) := by decide +kernel
theorem dX12_canBe_45 : decode cX12_canBe 45 = .ok (.iload_n 2, 1) := by decide +kernel
theorem dX12_canBe_46 : decode cX12_canBe 46 = .ok (.ineg, 1) := by decide +kernel
theorem dX12_canBe_47 : decode cX12_canBe 47 = .ok (.iload_n 2, 1) := by decide +kernel
theorem dX12_canBe_48 : decode cX12_canBe 48 = .ok (.invokestatic 69, 3) := by decide +kernel
theorem dX12_canBe_51 : decode cX12_canBe 51 = .ok (.ifCond .ne 5, 3) := by decide +kernel
theorem dX12_canBe_54 : decode cX12_canBe 54 = .ok (.iconst 0, 1) := by decide +kernel
theorem dX12_canBe_55 : decode cX12_canBe 55 = .ok (.ireturn, 1) := by decide +kernel
theorem dX12_canBe_56 : decode cX12_canBe 56 = .ok (.iinc 3 3, 3) := by decide +kernel
theorem dX12_canBe_59 : decode cX12_canBe 59 = .ok (.goto (-56), 3) := by decide +kernel
theorem dX12_canBe_62 : decode cX12_canBe 62 = .ok (.iconst 1, 1) := by decide +kernel
theorem dX12_canBe_63 : decode cX12_canBe 63 = .ok (.ireturn, 1) := by decide +kernel
theorem dX12_could_0 : decode cX12_could 0 = .ok (.iload_n 1, 1) := by decide +kernel
theorem dX12_could_1 : decode cX12_could 1 = .ok (.iconst 0, 1) := by decide +kernel
theorem dX12_could_2 : decode cX12_could 2 = .ok (.iconst 2, 1) := by decide +kernel
theorem dX12_could_3 : decode cX12_could 3 = .ok (.invokestatic 69, 3) := by decide +kernel
theorem dX12_could_6 : decode cX12_could 6 = .ok (.ifCond .eq 12, 3) := by decide +kernel
theorem dX12_could_9 : decode cX12_could 9 = .ok (.iload_n 2, 1) := by decide +kernel
theorem dX12_could_10 : decode cX12_could 10 = .ok (.iconst 0, 1) := by decide +kernel
theorem dX12_could_11 : decode cX12_could 11 = .ok (.iconst 2, 1) := by decide +kernel
theorem dX12_could_12 : decode cX12_could 12 = .ok (.invokestatic 69, 3) := by decide +kernel
theorem dX12_could_15 : decode cX12_could 15 = .ok (.ifCond .ne 5, 3) := by decide +kernel
theorem dX12_could_18 : decode cX12_could 18 = .ok (.iconst (-1), 1) := by decide +kernel
theorem dX12_could_19 : decode cX12_could 19 = .ok (.ireturn, 1) := by decide +kernel
theorem dX12_could_20 : decode cX12_could 20 = .ok (.iconst 0, 1) := by decide +kernel
theorem dX12_could_21 : decode cX12_could 21 = .ok (.istore_n 3, 1) := by decide +kernel
theorem dX12_could_22 : decode cX12_could 22 = .ok (.sipush 4095, 3) := by decide +kernel
theorem dX12_could_25 : decode cX12_could 25 = .ok (.istore 4, 2) := by decide +kernel
theorem dX12_could_27 : decode cX12_could 27 = .ok (.iload 4, 2) := by decide +kernel
theorem dX12_could_29 : decode cX12_could 29 = .ok (.istore 5, 2) := by decide +kernel
theorem dX12_could_31 : decode cX12_could 31 = .ok (.iconst 0, 1) := by decide +kernel
theorem dX12_could_32 : decode cX12_could 32 = .ok (.istore 6, 2) := by decide +kernel
theorem dX12_could_34 : decode cX12_could 34 = .ok (.iload 6, 2) := by decide +kernel
theorem dX12_could_36 : decode cX12_could 36 = .ok (.sipush 4096, 3) := by decide +kernel
theorem dX12_could_39 : decode cX12_could 39 = .ok (.if_icmp .ge 41, 3) := by decide +kernel
theorem dX12_could_42 : decode cX12_could 42 = .ok (.aload_n 0, 1) := by decide +kernel
theorem dX12_could_43 : decode cX12_could 43 = .ok (.iload 6, 2) := by decide +kernel
theorem dX12_could_45 : decode cX12_could 45 = .ok (.iload_n 1, 1) := by decide +kernel
theorem dX12_could_46 : decode cX12_could 46 = .ok (.invokevirtual 412, 3) := by decide +kernel
theorem dX12_could_49 : decode cX12_could 49 = .ok (.ifCond .ne 6, 3) := by decide +kernel
theorem dX12_could_52 : decode cX12_could 52 = .ok (.goto 22, 3) := by decide +kernel
theorem dX12_could_55 : decode cX12_could 55 = .ok (.iinc 3 1, 3) := by decide +kernel
theorem dX12_could_58 : decode cX12_could 58 = .ok (.iload 4, 2) := by decide +kernel
theorem dX12_could_60 : decode cX12_could 60 = .ok (.iload 6, 2) := by decide +kernel
theorem dX12_could_62 : decode cX12_could 62 = .ok (.iand, 1) := by decide +kernel
theorem dX12_could_63 : decode cX12_could 63 = .ok (.istore 4, 2) := by decide +kernel
theorem dX12_could_65 : decode cX12_could 65 = .ok (.iload 5, 2) := by decide +kernel
theorem dX12_could_67 : decode cX12_could 67 = .ok (.iload 6, 2) := by decide +kernel
theorem dX12_could_69 : decode cX12_could 69 = .ok (.iconst (-1), 1) := by decide +kernel
theorem dX12_could_70 : decode cX12_could 70 = .ok (.ixor, 1) := by decide +kernel
theorem dX12_could_71 : decode cX12_could 71 = .ok (.iand, 1) := by decide +kernel
theorem dX12_could_72 : decode cX12_could 72 = .ok (.istore 5, 2) := by decide +kernel
theorem dX12_could_74 : decode cX12_could 74 = .ok (.iinc 6 1, 3) := by decide +kernel
theorem dX12_could_77 : decode cX12_could 77 = .ok (.goto (-43), 3) := by decide +kernel
theorem dX12_could_80 : decode cX12_could 80 = .ok (.iload_n 2, 1) := by decide +kernel
theorem dX12_could_81 : decode cX12_could 81 = .ok (.ifCond .ne 7, 3) := by decide +kernel
theorem dX12_could_84 : decode cX12_could 84 = .ok (.iload_n 3, 1) := by decide +kernel
theorem dX12_could_85 : decode cX12_could 85 = .ok (.goto 23, 3) := by decide +kernel
theorem dX12_could_88 : decode cX12_could 88 = .ok (.iload_n 3, 1) := by decide +kernel
theorem dX12_could_89 : decode cX12_could 89 = .ok (.ifCond .ne 7, 3) := by decide +kernel
theorem dX12_could_92 : decode cX12_could 92 = .ok (.iconst (-1), 1) := by decide +kernel
theorem dX12_could_93 : decode cX12_could 93 = .ok (.goto 15, 3) := by decide +kernel
theorem dX12_could_96 : decode cX12_could 96 = .ok (.iload_n 2, 1) := by decide +kernel
theorem dX12_could_97 : decode cX12_could 97 = .ok (.iconst 1, 1) := by decide +kernel
theorem dX12_could_98 : decode cX12_could 98 = .ok (.if_icmp .ne 8, 3) := by decide +kernel
theorem dX12_could_101 : decode cX12_could 101 = .ok (.iload 4, 2) := by decide +kernel
theorem dX12_could_103 : decode cX12_could 103 = .ok (.goto 5, 3) := by decide +kernel
theorem dX12_could_106 : decode cX12_could 106 = .ok (.iload 5, 2) := by decide +kernel
theorem dX12_could_108 : decode cX12_could 108 = .ok (.ireturn, 1) := by decide +kernel
theorem dX12_mostLeft_0 : decode cX12_mostLeft 0 = .ok (.iconst 0, 1) := by decide +kernel
theorem dX12_mostLeft_1 : decode cX12_mostLeft 1 = .ok (.istore_n 3, 1) := by decide +kernel
theorem dX12_mostLeft_2 : decode cX12_mostLeft 2 = .ok (.iload_n 3, 1) := by decide +kernel
theorem dX12_mostLeft_3 : decode cX12_mostLeft 3 = .ok (.bipush 13, 2) := by decide +kernel
theorem dX12_mostLeft_5 : decode cX12_mostLeft 5 = .ok (.if_icmp .ge 16, 3) := by decide +kernel
theorem dX12_mostLeft_8 : decode cX12_mostLeft 8 = .ok (.aload_n 0, 1) := by decide +kernel
theorem dX12_mostLeft_9 : decode cX12_mostLeft 9 = .ok (.getfield 59, 3) := by decide +kernel
theorem dX12_mostLeft_12 : decode cX12_mostLeft 12 = .ok (.iload_n 3, 1) := by decide +kernel
theorem dX12_mostLeft_13 : decode cX12_mostLeft 13 = .ok (.iconst 0, 1) := by decide +kernel
theorem dX12_mostLeft_14 : decode cX12_mostLeft 14 = .ok (.iastore, 1) := by decide +kernel
theorem dX12_mostLeft_15 : decode cX12_mostLeft 15 = .ok (.iinc 3 1, 3) := by decide +kernel
theorem dX12_mostLeft_18 : decode cX12_mostLeft 18 = .ok (.goto (-16), 3) := by decide +kernel
theorem dX12_mostLeft_21 : decode cX12_mostLeft 21 = .ok (.iconst 0, 1) := by decide +kernel
theorem dX12_mostLeft_22 : decode cX12_mostLeft 22 = .ok (.istore_n 3, 1) := by decide +kernel
theorem dX12_mostLeft_23 : decode cX12_mostLeft 23 = .ok (.iload_n 3, 1) := by decide +kernel
theorem dX12_mostLeft_24 : decode cX12_mostLeft 24 = .ok (.sipush 4096, 3) := by decide +kernel
theorem dX12_mostLeft_27 : decode cX12_mostLeft 27 = .ok (.if_icmp .ge 33, 3) := by decide +kernel
theorem dX12_mostLeft_30 : decode cX12_mostLeft 30 = .ok (.aload_n 0, 1) := by decide +kernel
theorem dX12_mostLeft_31 : decode cX12_mostLeft 31 = .ok (.getfield 56, 3) := by decide +kernel
theorem dX12_mostLeft_34 : decode cX12_mostLeft 34 = .ok (.iload_n 3, 1) := by decide +kernel
theorem dX12_mostLeft_35 : decode cX12_mostLeft 35 = .ok (.baload, 1) := by decide +kernel
theorem dX12_mostLeft_36 : decode cX12_mostLeft 36 = .ok (.ifCond .eq 18, 3) := by decide +kernel
theorem dX12_mostLeft_39 : decode cX12_mostLeft 39 = .ok (.aload_n 0, 1) := by decide +kernel
theorem dX12_mostLeft_40 : decode cX12_mostLeft 40 = .ok (.getfield 59, 3) := by decide +kernel
theorem dX12_mostLeft_43 : decode cX12_mostLeft 43 = .ok (.iload_n 3, 1) := by decide +kernel
theorem dX12_mostLeft_44 : decode cX12_mostLeft 44 = .ok (.iload_n 1, 1) := by decide +kernel
theorem dX12_mostLeft_45 : decode cX12_mostLeft 45 = .ok (.iload_n 2, 1) := by decide +kernel
theorem dX12_mostLeft_46 : decode cX12_mostLeft 46 = .ok (.invokestatic 409, 3) := by decide +kernel
theorem dX12_mostLeft_49 : decode cX12_mostLeft 49 = .ok (.dup2, 1) := by decide +kernel
theorem dX12_mostLeft_50 : decode cX12_mostLeft 50 = .ok (.iaload, 1) := by decide +kernel
theorem dX12_mostLeft_51 : decode cX12_mostLeft 51 = .ok (.iconst 1, 1) := by decide +kernel
theorem dX12_mostLeft_52 : decode cX12_mostLeft 52 = .ok (.iadd, 1) := by decide +kernel
theorem dX12_mostLeft_53 : decode cX12_mostLeft 53 = .ok (.iastore, 1) := by decide +kernel
theorem dX12_mostLeft_54 : decode cX12_mostLeft 54 = .ok (.iinc 3 1, 3) := by decide +kernel
theorem dX12_mostLeft_57 : decode cX12_mostLeft 57 = .ok (.goto (-34), 3) := by decide +kernel
theorem dX12_mostLeft_60 : decode cX12_mostLeft 60 = .ok (.iconst 0, 1) := by decide +kernel
theorem dX12_mostLeft_61 : decode cX12_mostLeft 61 = .ok (.istore_n 3, 1) := by decide +kernel
theorem dX12_mostLeft_62 : decode cX12_mostLeft 62 = .ok (.iconst 0, 1) := by decide +kernel
theorem dX12_mostLeft_63 : decode cX12_mostLeft 63 = .ok (.istore 4, 2) := by decide +kernel
theorem dX12_mostLeft_65 : decode cX12_mostLeft 65 = .ok (.iload 4, 2) := by decide +kernel
theorem dX12_mostLeft_67 : decode cX12_mostLeft 67 = .ok (.bipush 13, 2) := by decide +kernel
theorem dX12_mostLeft_69 : decode cX12_mostLeft 69 = .ok (.if_icmp .ge 32, 3) := by decide +kernel
theorem dX12_mostLeft_72 : decode cX12_mostLeft 72 = .ok (.aload_n 0, 1) := by decide +kernel
theorem dX12_mostLeft_73 : decode cX12_mostLeft 73 = .ok (.getfield 59, 3) := by decide +kernel
theorem dX12_mostLeft_76 : decode cX12_mostLeft 76 = .ok (.iload 4, 2) := by decide +kernel
theorem dX12_mostLeft_78 : decode cX12_mostLeft 78 = .ok (.iaload, 1) := by decide +kernel
theorem dX12_mostLeft_79 : decode cX12_mostLeft 79 = .ok (.iload_n 3, 1) := by decide +kernel
theorem dX12_mostLeft_80 : decode cX12_mostLeft 80 = .ok (.if_icmp .le 13, 3) := by decide +kernel
theorem dX12_mostLeft_83 : decode cX12_mostLeft 83 = .ok (.aload_n 0, 1) := by decide +kernel
theorem dX12_mostLeft_84 : decode cX12_mostLeft 84 = .ok (.getfield 59, 3) := by decide +kernel
theorem dX12_mostLeft_87 : decode cX12_mostLeft 87 = .ok (.iload 4, 2) := by decide +kernel
theorem dX12_mostLeft_89 : decode cX12_mostLeft 89 = .ok (.iaload, 1) := by decide +kernel
theorem dX12_mostLeft_90 : decode cX12_mostLeft 90 = .ok (.goto 4, 3) := by decide +kernel
theorem dX12_mostLeft_93 : decode cX12_mostLeft 93 = .ok (.iload_n 3, 1) := by decide +kernel
theorem dX12_mostLeft_94 : decode cX12_mostLeft 94 = .ok (.istore_n 3, 1) := by decide +kernel
theorem dX12_mostLeft_95 : decode cX12_mostLeft 95 = .ok (.iinc 4 1, 3) := by decide +kernel
theorem dX12_mostLeft_98 : decode cX12_mostLeft 98 = .ok (.goto (-33), 3) := by decide +kernel
theorem dX12_mostLeft_101 : decode cX12_mostLeft 101 = .ok (.iload_n 3, 1) := by decide +kernel
theorem dX12_mostLeft_102 : decode cX12_mostLeft 102 = .ok (.ireturn, 1) := by decide +kernel
theorem dX12_ask_0 : decode cX12_ask 0 = .ok (.iload_n 1, 1) := by decide +kernel
theorem dX12_ask_1 : decode cX12_ask 1 = .ok (.iconst 0, 1) := by decide +kernel
theorem dX12_ask_2 : decode cX12_ask 2 = .ok (.iconst 2, 1) := by decide +kernel
theorem dX12_ask_3 : decode cX12_ask 3 = .ok (.invokestatic 69, 3) := by decide +kernel
theorem dX12_ask_6 : decode cX12_ask 6 = .ok (.ifCond .ne 5, 3) := by decide +kernel
theorem dX12_ask_9 : decode cX12_ask 9 = .ok (.iconst (-1), 1) := by decide +kernel
theorem dX12_ask_10 : decode cX12_ask 10 = .ok (.ireturn, 1) := by decide +kernel
theorem dX12_ask_11 : decode cX12_ask 11 = .ok (.iconst 0, 1) := by decide +kernel
theorem dX12_ask_12 : decode cX12_ask 12 = .ok (.istore_n 2, 1) := by decide +kernel
theorem dX12_ask_13 : decode cX12_ask 13 = .ok (.iconst 0, 1) := by decide +kernel
theorem dX12_ask_14 : decode cX12_ask 14 = .ok (.istore_n 3, 1) := by decide +kernel
theorem dX12_ask_15 : decode cX12_ask 15 = .ok (.iload_n 3, 1) := by decide +kernel
theorem dX12_ask_16 : decode cX12_ask 16 = .ok (.sipush 4096, 3) := by decide +kernel
theorem dX12_ask_19 : decode cX12_ask 19 = .ok (.if_icmp .ge 38, 3) := by decide +kernel
theorem dX12_ask_22 : decode cX12_ask 22 = .ok (.aload_n 0, 1) := by decide +kernel
theorem dX12_ask_23 : decode cX12_ask 23 = .ok (.getfield 56, 3) := by decide +kernel
theorem dX12_ask_26 : decode cX12_ask 26 = .ok (.iload_n 3, 1) := by decide +kernel
theorem dX12_ask_27 : decode cX12_ask 27 = .ok (.aload_n 0, 1) := by decide +kernel
theorem dX12_ask_28 : decode cX12_ask 28 = .ok (.iload_n 3, 1) := by decide +kernel
theorem dX12_ask_29 : decode cX12_ask 29 = .ok (.iload_n 1, 1) := by decide +kernel
theorem dX12_ask_30 : decode cX12_ask 30 = .ok (.invokevirtual 412, 3) := by decide +kernel
theorem dX12_ask_33 : decode cX12_ask 33 = .ok (.bastore, 1) := by decide +kernel
theorem dX12_ask_34 : decode cX12_ask 34 = .ok (.iload_n 2, 1) := by decide +kernel
theorem dX12_ask_35 : decode cX12_ask 35 = .ok (.aload_n 0, 1) := by decide +kernel
theorem dX12_ask_36 : decode cX12_ask 36 = .ok (.getfield 56, 3) := by decide +kernel
theorem dX12_ask_39 : decode cX12_ask 39 = .ok (.iload_n 3, 1) := by decide +kernel
theorem dX12_ask_40 : decode cX12_ask 40 = .ok (.baload, 1) := by decide +kernel
theorem dX12_ask_41 : decode cX12_ask 41 = .ok (.ifCond .eq 7, 3) := by decide +kernel
theorem dX12_ask_44 : decode cX12_ask 44 = .ok (.iconst 1, 1) := by decide +kernel
theorem dX12_ask_45 : decode cX12_ask 45 = .ok (.goto 4, 3) := by decide +kernel
theorem dX12_ask_48 : decode cX12_ask 48 = .ok (.iconst 0, 1) := by decide +kernel
theorem dX12_ask_49 : decode cX12_ask 49 = .ok (.iadd, 1) := by decide +kernel
theorem dX12_ask_50 : decode cX12_ask 50 = .ok (.istore_n 2, 1) := by decide +kernel
theorem dX12_ask_51 : decode cX12_ask 51 = .ok (.iinc 3 1, 3) := by decide +kernel
theorem dX12_ask_54 : decode cX12_ask 54 = .ok (.goto (-39), 3) := by decide +kernel
theorem dX12_ask_57 : decode cX12_ask 57 = .ok (.iconst (-1), 1) := by decide +kernel
theorem dX12_ask_58 : decode cX12_ask 58 = .ok (.istore_n 3, 1) := by decide +kernel
theorem dX12_ask_59 : decode cX12_ask 59 = .ok (.ldc_w 415, 3) := by decide +kernel
theorem dX12_ask_62 : decode cX12_ask 62 = .ok (.istore 4, 2) := by decide +kernel
theorem dX12_ask_64 : decode cX12_ask 64 = .ok (.iconst 0, 1) := by decide +kernel
theorem dX12_ask_65 : decode cX12_ask 65 = .ok (.istore 5, 2) := by decide +kernel
theorem dX12_ask_67 : decode cX12_ask 67 = .ok (.iload 5, 2) := by decide +kernel
theorem dX12_ask_69 : decode cX12_ask 69 = .ok (.bipush 12, 2) := by decide +kernel
theorem dX12_ask_71 : decode cX12_ask 71 = .ok (.if_icmp .ge 66, 3) := by decide +kernel
theorem dX12_ask_74 : decode cX12_ask 74 = .ok (.iload_n 2, 1) := by decide +kernel
theorem dX12_ask_75 : decode cX12_ask 75 = .ok (.iconst 1, 1) := by decide +kernel
theorem dX12_ask_76 : decode cX12_ask 76 = .ok (.if_icmp .le 61, 3) := by decide +kernel
theorem dX12_ask_79 : decode cX12_ask 79 = .ok (.iconst 1, 1) := by decide +kernel
theorem dX12_ask_80 : decode cX12_ask 80 = .ok (.istore 6, 2) := by decide +kernel
theorem dX12_ask_82 : decode cX12_ask 82 = .ok (.iload 6, 2) := by decide +kernel
theorem dX12_ask_84 : decode cX12_ask 84 = .ok (.bipush 12, 2) := by decide +kernel
theorem dX12_ask_86 : decode cX12_ask 86 = .ok (.iload 5, 2) := by decide +kernel
theorem dX12_ask_88 : decode cX12_ask 88 = .ok (.isub, 1) := by decide +kernel
theorem dX12_ask_89 : decode cX12_ask 89 = .ok (.if_icmp .gt 42, 3) := by decide +kernel
theorem dX12_ask_92 : decode cX12_ask 92 = .ok (.aload_n 0, 1) := by decide +kernel
theorem dX12_ask_93 : decode cX12_ask 93 = .ok (.iload 5, 2) := by decide +kernel
theorem dX12_ask_95 : decode cX12_ask 95 = .ok (.iload 6, 2) := by decide +kernel
theorem dX12_ask_97 : decode cX12_ask 97 = .ok (.invokevirtual 416, 3) := by decide +kernel
theorem dX12_ask_100 : decode cX12_ask 100 = .ok (.istore 7, 2) := by decide +kernel
theorem dX12_ask_102 : decode cX12_ask 102 = .ok (.iload 7, 2) := by decide +kernel
theorem dX12_ask_104 : decode cX12_ask 104 = .ok (.iload 4, 2) := by decide +kernel
theorem dX12_ask_106 : decode cX12_ask 106 = .ok (.if_icmp .lt 6, 3) := by decide +kernel
theorem dX12_ask_109 : decode cX12_ask 109 = .ok (.goto 16, 3) := by decide +kernel
theorem dX12_ask_112 : decode cX12_ask 112 = .ok (.iload 7, 2) := by decide +kernel
theorem dX12_ask_114 : decode cX12_ask 114 = .ok (.istore 4, 2) := by decide +kernel
theorem dX12_ask_116 : decode cX12_ask 116 = .ok (.bipush 100, 2) := by decide +kernel
theorem dX12_ask_118 : decode cX12_ask 118 = .ok (.iload 5, 2) := by decide +kernel
theorem dX12_ask_120 : decode cX12_ask 120 = .ok (.imul, 1) := by decide +kernel
theorem dX12_ask_121 : decode cX12_ask 121 = .ok (.iload 6, 2) := by decide +kernel
theorem dX12_ask_123 : decode cX12_ask 123 = .ok (.iadd, 1) := by decide +kernel
theorem dX12_ask_124 : decode cX12_ask 124 = .ok (.istore_n 3, 1) := by decide +kernel
theorem dX12_ask_125 : decode cX12_ask 125 = .ok (.iinc 6 1, 3) := by decide +kernel
theorem dX12_ask_128 : decode cX12_ask 128 = .ok (.goto (-46), 3) := by decide +kernel
theorem dX12_ask_131 : decode cX12_ask 131 = .ok (.iinc 5 1, 3) := by decide +kernel
theorem dX12_ask_134 : decode cX12_ask 134 = .ok (.goto (-67), 3) := by decide +kernel
theorem dX12_ask_137 : decode cX12_ask 137 = .ok (.iload_n 3, 1) := by decide +kernel
theorem dX12_ask_138 : decode cX12_ask 138 = .ok (.ireturn, 1) := by decide +kernel
theorem dX12_costBy_0 : decode cX12_costBy 0 = .ok (.aload_n 0, 1) := by decide +kernel
theorem dX12_costBy_1 : decode cX12_costBy 1 = .ok (.getfield 62, 3) := by decide +kernel
theorem dX12_costBy_4 : decode cX12_costBy 4 = .ok (.bipush 30, 2) := by decide +kernel
theorem dX12_costBy_6 : decode cX12_costBy 6 = .ok (.iload_n 1, 1) := by decide +kernel
theorem dX12_costBy_7 : decode cX12_costBy 7 = .ok (.imul, 1) := by decide +kernel
theorem dX12_costBy_8 : decode cX12_costBy 8 = .ok (.iload_n 3, 1) := by decide +kernel
theorem dX12_costBy_9 : decode cX12_costBy 9 = .ok (.iadd, 1) := by decide +kernel
theorem dX12_costBy_10 : decode cX12_costBy 10 = .ok (.iaload, 1) := by decide +kernel
theorem dX12_costBy_11 : decode cX12_costBy 11 = .ok (.istore 4, 2) := by decide +kernel
theorem dX12_costBy_13 : decode cX12_costBy 13 = .ok (.aload_n 0, 1) := by decide +kernel
theorem dX12_costBy_14 : decode cX12_costBy 14 = .ok (.getfield 62, 3) := by decide +kernel
theorem dX12_costBy_17 : decode cX12_costBy 17 = .ok (.bipush 30, 2) := by decide +kernel
theorem dX12_costBy_19 : decode cX12_costBy 19 = .ok (.iload_n 3, 1) := by decide +kernel
theorem dX12_costBy_20 : decode cX12_costBy 20 = .ok (.iconst 1, 1) := by decide +kernel
theorem dX12_costBy_21 : decode cX12_costBy 21 = .ok (.iadd, 1) := by decide +kernel
theorem dX12_costBy_22 : decode cX12_costBy 22 = .ok (.imul, 1) := by decide +kernel
theorem dX12_costBy_23 : decode cX12_costBy 23 = .ok (.iload_n 2, 1) := by decide +kernel
theorem dX12_costBy_24 : decode cX12_costBy 24 = .ok (.iadd, 1) := by decide +kernel
theorem dX12_costBy_25 : decode cX12_costBy 25 = .ok (.iaload, 1) := by decide +kernel
theorem dX12_costBy_26 : decode cX12_costBy 26 = .ok (.istore 5, 2) := by decide +kernel
theorem dX12_costBy_28 : decode cX12_costBy 28 = .ok (.aload_n 0, 1) := by decide +kernel
theorem dX12_costBy_29 : decode cX12_costBy 29 = .ok (.getfield 7, 3) := by decide +kernel
theorem dX12_costBy_32 : decode cX12_costBy 32 = .ok (.bipush 39, 2) := by decide +kernel
theorem dX12_costBy_34 : decode cX12_costBy 34 = .ok (.iload_n 3, 1) := by decide +kernel
theorem dX12_costBy_35 : decode cX12_costBy 35 = .ok (.iadd, 1) := by decide +kernel
theorem dX12_costBy_36 : decode cX12_costBy 36 = .ok (.iaload, 1) := by decide +kernel
theorem dX12_costBy_37 : decode cX12_costBy 37 = .ok (.iconst 1, 1) := by decide +kernel
theorem dX12_costBy_38 : decode cX12_costBy 38 = .ok (.iadd, 1) := by decide +kernel
theorem dX12_costBy_39 : decode cX12_costBy 39 = .ok (.iload 4, 2) := by decide +kernel
theorem dX12_costBy_41 : decode cX12_costBy 41 = .ok (.iload 5, 2) := by decide +kernel
theorem dX12_costBy_43 : decode cX12_costBy 43 = .ok (.if_icmp .le 8, 3) := by decide +kernel
theorem dX12_costBy_46 : decode cX12_costBy 46 = .ok (.iload 4, 2) := by decide +kernel
theorem dX12_costBy_48 : decode cX12_costBy 48 = .ok (.goto 5, 3) := by decide +kernel
theorem dX12_costBy_51 : decode cX12_costBy 51 = .ok (.iload 5, 2) := by decide +kernel
theorem dX12_costBy_53 : decode cX12_costBy 53 = .ok (.iadd, 1) := by decide +kernel
theorem dX12_costBy_54 : decode cX12_costBy 54 = .ok (.ireturn, 1) := by decide +kernel
theorem dX12_sings_0 : decode cX12_sings 0 = .ok (.iload_n 1, 1) := by decide +kernel
theorem dX12_sings_1 : decode cX12_sings 1 = .ok (.invokestatic 73, 3) := by decide +kernel
theorem dX12_sings_4 : decode cX12_sings 4 = .ok (.ifCond .eq 15, 3) := by decide +kernel
theorem dX12_sings_7 : decode cX12_sings 7 = .ok (.iload_n 2, 1) := by decide +kernel
theorem dX12_sings_8 : decode cX12_sings 8 = .ok (.invokestatic 73, 3) := by decide +kernel
theorem dX12_sings_11 : decode cX12_sings 11 = .ok (.ifCond .eq 8, 3) := by decide +kernel
theorem dX12_sings_14 : decode cX12_sings 14 = .ok (.iload_n 1, 1) := by decide +kernel
theorem dX12_sings_15 : decode cX12_sings 15 = .ok (.iload_n 2, 1) := by decide +kernel
theorem dX12_sings_16 : decode cX12_sings 16 = .ok (.if_icmp .le 5, 3) := by decide +kernel
theorem dX12_sings_19 : decode cX12_sings 19 = .ok (.iconst (-1), 1) := by decide +kernel
theorem dX12_sings_20 : decode cX12_sings 20 = .ok (.ireturn, 1) := by decide +kernel
theorem dX12_sings_21 : decode cX12_sings 21 = .ok (.iconst (-1), 1) := by decide +kernel
theorem dX12_sings_22 : decode cX12_sings 22 = .ok (.istore 4, 2) := by decide +kernel
theorem dX12_sings_24 : decode cX12_sings 24 = .ok (.iconst 1, 1) := by decide +kernel
theorem dX12_sings_25 : decode cX12_sings 25 = .ok (.istore 5, 2) := by decide +kernel
theorem dX12_sings_27 : decode cX12_sings 27 = .ok (.iload 5, 2) := by decide +kernel
theorem dX12_sings_29 : decode cX12_sings 29 = .ok (.iload_n 2, 1) := by decide +kernel
theorem dX12_sings_30 : decode cX12_sings 30 = .ok (.iload_n 1, 1) := by decide +kernel
theorem dX12_sings_31 : decode cX12_sings 31 = .ok (.isub, 1) := by decide +kernel
theorem dX12_sings_32 : decode cX12_sings 32 = .ok (.iconst 1, 1) := by decide +kernel
theorem dX12_sings_33 : decode cX12_sings 33 = .ok (.iadd, 1) := by decide +kernel
theorem dX12_sings_34 : decode cX12_sings 34 = .ok (.if_icmp .gt 124, 3) := by decide +kernel
theorem dX12_sings_37 : decode cX12_sings 37 = .ok (.iload_n 1, 1) := by decide +kernel
theorem dX12_sings_38 : decode cX12_sings 38 = .ok (.istore 6, 2) := by decide +kernel
theorem dX12_sings_40 : decode cX12_sings 40 = .ok (.iload 6, 2) := by decide +kernel
theorem dX12_sings_42 : decode cX12_sings 42 = .ok (.iload 5, 2) := by decide +kernel
theorem dX12_sings_44 : decode cX12_sings 44 = .ok (.iadd, 1) := by decide +kernel
theorem dX12_sings_45 : decode cX12_sings 45 = .ok (.iconst 1, 1) := by decide +kernel
theorem dX12_sings_46 : decode cX12_sings 46 = .ok (.isub, 1) := by decide +kernel
theorem dX12_sings_47 : decode cX12_sings 47 = .ok (.iload_n 2, 1) := by decide +kernel
theorem dX12_sings_48 : decode cX12_sings 48 = .ok (.if_icmp .gt 104, 3) := by decide +kernel
theorem dX12_sings_51 : decode cX12_sings 51 = .ok (.iload 5, 2) := by decide +kernel
theorem dX12_sings_53 : decode cX12_sings 53 = .ok (.iconst 1, 1) := by decide +kernel
theorem dX12_sings_54 : decode cX12_sings 54 = .ok (.if_icmp .ne 7, 3) := by decide +kernel
theorem dX12_sings_57 : decode cX12_sings 57 = .ok (.iconst 0, 1) := by decide +kernel
theorem dX12_sings_58 : decode cX12_sings 58 = .ok (.goto 6, 3) := by decide +kernel
theorem dX12_sings_61 : decode cX12_sings 61 = .ok (.ldc_w 415, 3) := by decide +kernel
theorem dX12_sings_64 : decode cX12_sings 64 = .ok (.istore 7, 2) := by decide +kernel
theorem dX12_sings_66 : decode cX12_sings 66 = .ok (.iconst (-1), 1) := by decide +kernel
theorem dX12_sings_67 : decode cX12_sings 67 = .ok (.istore 4, 2) := by decide +kernel
theorem dX12_sings_69 : decode cX12_sings 69 = .ok (.iload 6, 2) := by decide +kernel
theorem dX12_sings_71 : decode cX12_sings 71 = .ok (.istore 8, 2) := by decide +kernel
theorem dX12_sings_73 : decode cX12_sings 73 = .ok (.iload 8, 2) := by decide +kernel
theorem dX12_sings_75 : decode cX12_sings 75 = .ok (.iload 6, 2) := by decide +kernel
theorem dX12_sings_77 : decode cX12_sings 77 = .ok (.iload 5, 2) := by decide +kernel
theorem dX12_sings_79 : decode cX12_sings 79 = .ok (.iadd, 1) := by decide +kernel
theorem dX12_sings_80 : decode cX12_sings 80 = .ok (.iconst 1, 1) := by decide +kernel
theorem dX12_sings_81 : decode cX12_sings 81 = .ok (.isub, 1) := by decide +kernel
theorem dX12_sings_82 : decode cX12_sings 82 = .ok (.if_icmp .ge 44, 3) := by decide +kernel
theorem dX12_sings_85 : decode cX12_sings 85 = .ok (.aload_n 0, 1) := by decide +kernel
theorem dX12_sings_86 : decode cX12_sings 86 = .ok (.iload 6, 2) := by decide +kernel
theorem dX12_sings_88 : decode cX12_sings 88 = .ok (.iload 6, 2) := by decide +kernel
theorem dX12_sings_90 : decode cX12_sings 90 = .ok (.iload 5, 2) := by decide +kernel
theorem dX12_sings_92 : decode cX12_sings 92 = .ok (.iadd, 1) := by decide +kernel
theorem dX12_sings_93 : decode cX12_sings 93 = .ok (.iconst 1, 1) := by decide +kernel
theorem dX12_sings_94 : decode cX12_sings 94 = .ok (.isub, 1) := by decide +kernel
theorem dX12_sings_95 : decode cX12_sings 95 = .ok (.iload 8, 2) := by decide +kernel
theorem dX12_sings_97 : decode cX12_sings 97 = .ok (.invokevirtual 419, 3) := by decide +kernel
theorem dX12_sings_100 : decode cX12_sings 100 = .ok (.istore 9, 2) := by decide +kernel
theorem dX12_sings_102 : decode cX12_sings 102 = .ok (.iload 9, 2) := by decide +kernel
theorem dX12_sings_104 : decode cX12_sings 104 = .ok (.iload 7, 2) := by decide +kernel
theorem dX12_sings_106 : decode cX12_sings 106 = .ok (.if_icmp .lt 6, 3) := by decide +kernel
theorem dX12_sings_109 : decode cX12_sings 109 = .ok (.goto 11, 3) := by decide +kernel
theorem dX12_sings_112 : decode cX12_sings 112 = .ok (.iload 9, 2) := by decide +kernel
theorem dX12_sings_114 : decode cX12_sings 114 = .ok (.istore 7, 2) := by decide +kernel
theorem dX12_sings_116 : decode cX12_sings 116 = .ok (.iload 8, 2) := by decide +kernel
theorem dX12_sings_118 : decode cX12_sings 118 = .ok (.istore 4, 2) := by decide +kernel
theorem dX12_sings_120 : decode cX12_sings 120 = .ok (.iinc 8 1, 3) := by decide +kernel
theorem dX12_sings_123 : decode cX12_sings 123 = .ok (.goto (-50), 3) := by decide +kernel
theorem dX12_sings_126 : decode cX12_sings 126 = .ok (.aload_n 0, 1) := by decide +kernel
theorem dX12_sings_127 : decode cX12_sings 127 = .ok (.getfield 62, 3) := by decide +kernel
theorem dX12_sings_130 : decode cX12_sings 130 = .ok (.bipush 30, 2) := by decide +kernel
theorem dX12_sings_132 : decode cX12_sings 132 = .ok (.iload 6, 2) := by decide +kernel
theorem dX12_sings_134 : decode cX12_sings 134 = .ok (.imul, 1) := by decide +kernel
theorem dX12_sings_135 : decode cX12_sings 135 = .ok (.iload 6, 2) := by decide +kernel
theorem dX12_sings_137 : decode cX12_sings 137 = .ok (.iadd, 1) := by decide +kernel
theorem dX12_sings_138 : decode cX12_sings 138 = .ok (.iload 5, 2) := by decide +kernel
theorem dX12_sings_140 : decode cX12_sings 140 = .ok (.iadd, 1) := by decide +kernel
theorem dX12_sings_141 : decode cX12_sings 141 = .ok (.iconst 1, 1) := by decide +kernel
theorem dX12_sings_142 : decode cX12_sings 142 = .ok (.isub, 1) := by decide +kernel
theorem dX12_sings_143 : decode cX12_sings 143 = .ok (.iload 7, 2) := by decide +kernel
theorem dX12_sings_145 : decode cX12_sings 145 = .ok (.iastore, 1) := by decide +kernel
theorem dX12_sings_146 : decode cX12_sings 146 = .ok (.iinc 6 1, 3) := by decide +kernel
theorem dX12_sings_149 : decode cX12_sings 149 = .ok (.goto (-109), 3) := by decide +kernel
theorem dX12_sings_152 : decode cX12_sings 152 = .ok (.iinc 5 1, 3) := by decide +kernel
theorem dX12_sings_155 : decode cX12_sings 155 = .ok (.goto (-128), 3) := by decide +kernel
theorem dX12_sings_158 : decode cX12_sings 158 = .ok (.iload_n 3, 1) := by decide +kernel
theorem dX12_sings_159 : decode cX12_sings 159 = .ok (.ifCond .eq 8, 3) := by decide +kernel
theorem dX12_sings_162 : decode cX12_sings 162 = .ok (.iload 4, 2) := by decide +kernel
theorem dX12_sings_164 : decode cX12_sings 164 = .ok (.goto 14, 3) := by decide +kernel
theorem dX12_sings_167 : decode cX12_sings 167 = .ok (.aload_n 0, 1) := by decide +kernel
theorem dX12_sings_168 : decode cX12_sings 168 = .ok (.getfield 62, 3) := by decide +kernel
theorem dX12_sings_171 : decode cX12_sings 171 = .ok (.bipush 30, 2) := by decide +kernel
theorem dX12_sings_173 : decode cX12_sings 173 = .ok (.iload_n 1, 1) := by decide +kernel
theorem dX12_sings_174 : decode cX12_sings 174 = .ok (.imul, 1) := by decide +kernel
theorem dX12_sings_175 : decode cX12_sings 175 = .ok (.iload_n 2, 1) := by decide +kernel
theorem dX12_sings_176 : decode cX12_sings 176 = .ok (.iadd, 1) := by decide +kernel
theorem dX12_sings_177 : decode cX12_sings 177 = .ok (.iaload, 1) := by decide +kernel
theorem dX12_sings_178 : decode cX12_sings 178 = .ok (.ireturn, 1) := by decide +kernel
theorem dX12_visits_0 : decode cX12_visits 0 = .ok (.aload_n 0, 1) := by decide +kernel
theorem dX12_visits_1 : decode cX12_visits 1 = .ok (.iload_n 1, 1) := by decide +kernel
theorem dX12_visits_2 : decode cX12_visits 2 = .ok (.iload_n 2, 1) := by decide +kernel
theorem dX12_visits_3 : decode cX12_visits 3 = .ok (.invokevirtual 387, 3) := by decide +kernel
theorem dX12_visits_6 : decode cX12_visits 6 = .ok (.ifCond .ne 5, 3) := by decide +kernel
theorem dX12_visits_9 : decode cX12_visits 9 = .ok (.iconst (-1), 1) := by decide +kernel
theorem dX12_visits_10 : decode cX12_visits 10 = .ok (.ireturn, 1) := by decide +kernel
theorem dX12_visits_11 : decode cX12_visits 11 = .ok (.iconst 0, 1) := by decide +kernel
theorem dX12_visits_12 : decode cX12_visits 12 = .ok (.istore_n 3, 1) := by decide +kernel
theorem dX12_visits_13 : decode cX12_visits 13 = .ok (.iload_n 2, 1) := by decide +kernel
theorem dX12_visits_14 : decode cX12_visits 14 = .ok (.istore 4, 2) := by decide +kernel
theorem dX12_visits_16 : decode cX12_visits 16 = .ok (.iload_n 3, 1) := by decide +kernel
theorem dX12_visits_17 : decode cX12_visits 17 = .ok (.iload 4, 2) := by decide +kernel
theorem dX12_visits_19 : decode cX12_visits 19 = .ok (.invokestatic 235, 3) := by decide +kernel
theorem dX12_visits_22 : decode cX12_visits 22 = .ok (.ifCond .ne 30, 3) := by decide +kernel
theorem dX12_visits_25 : decode cX12_visits 25 = .ok (.iload_n 3, 1) := by decide +kernel
theorem dX12_visits_26 : decode cX12_visits 26 = .ok (.iconst 1, 1) := by decide +kernel
theorem dX12_visits_27 : decode cX12_visits 27 = .ok (.iload 4, 2) := by decide +kernel
theorem dX12_visits_29 : decode cX12_visits 29 = .ok (.ishl, 1) := by decide +kernel
theorem dX12_visits_30 : decode cX12_visits 30 = .ok (.ior, 1) := by decide +kernel
theorem dX12_visits_31 : decode cX12_visits 31 = .ok (.istore_n 3, 1) := by decide +kernel
theorem dX12_visits_32 : decode cX12_visits 32 = .ok (.iload 4, 2) := by decide +kernel
theorem dX12_visits_34 : decode cX12_visits 34 = .ok (.aload_n 0, 1) := by decide +kernel
theorem dX12_visits_35 : decode cX12_visits 35 = .ok (.getfield 7, 3) := by decide +kernel
theorem dX12_visits_38 : decode cX12_visits 38 = .ok (.bipush 76, 2) := by decide +kernel
theorem dX12_visits_40 : decode cX12_visits 40 = .ok (.iload_n 1, 1) := by decide +kernel
theorem dX12_visits_41 : decode cX12_visits 41 = .ok (.iadd, 1) := by decide +kernel
theorem dX12_visits_42 : decode cX12_visits 42 = .ok (.iaload, 1) := by decide +kernel
theorem dX12_visits_43 : decode cX12_visits 43 = .ok (.iadd, 1) := by decide +kernel
theorem dX12_visits_44 : decode cX12_visits 44 = .ok (.bipush 30, 2) := by decide +kernel
theorem dX12_visits_46 : decode cX12_visits 46 = .ok (.irem, 1) := by decide +kernel
theorem dX12_visits_47 : decode cX12_visits 47 = .ok (.istore 4, 2) := by decide +kernel
theorem dX12_visits_49 : decode cX12_visits 49 = .ok (.goto (-33), 3) := by decide +kernel
theorem dX12_visits_52 : decode cX12_visits 52 = .ok (.iload_n 3, 1) := by decide +kernel
theorem dX12_visits_53 : decode cX12_visits 53 = .ok (.ireturn, 1) := by decide +kernel
theorem dX12_meet_0 : decode cX12_meet 0 = .ok (.aload_n 0, 1) := by decide +kernel
theorem dX12_meet_1 : decode cX12_meet 1 = .ok (.iload_n 1, 1) := by decide +kernel
theorem dX12_meet_2 : decode cX12_meet 2 = .ok (.iload_n 2, 1) := by decide +kernel
theorem dX12_meet_3 : decode cX12_meet 3 = .ok (.invokevirtual 387, 3) := by decide +kernel
theorem dX12_meet_6 : decode cX12_meet 6 = .ok (.ifCond .eq 13, 3) := by decide +kernel
theorem dX12_meet_9 : decode cX12_meet 9 = .ok (.aload_n 0, 1) := by decide +kernel
theorem dX12_meet_10 : decode cX12_meet 10 = .ok (.iload_n 3, 1) := by decide +kernel
theorem dX12_meet_11 : decode cX12_meet 11 = .ok (.iload 4, 2) := by decide +kernel
theorem dX12_meet_13 : decode cX12_meet 13 = .ok (.invokevirtual 387, 3) := by decide +kernel
theorem dX12_meet_16 : decode cX12_meet 16 = .ok (.ifCond .ne 5, 3) := by decide +kernel
theorem dX12_meet_19 : decode cX12_meet 19 = .ok (.iconst (-1), 1) := by decide +kernel
theorem dX12_meet_20 : decode cX12_meet 20 = .ok (.ireturn, 1) := by decide +kernel
theorem dX12_meet_21 : decode cX12_meet 21 = .ok (.iconst 0, 1) := by decide +kernel
theorem dX12_meet_22 : decode cX12_meet 22 = .ok (.istore 5, 2) := by decide +kernel
theorem dX12_meet_24 : decode cX12_meet 24 = .ok (.iload 5, 2) := by decide +kernel
theorem dX12_meet_26 : decode cX12_meet 26 = .ok (.bipush 30, 2) := by decide +kernel
theorem dX12_meet_28 : decode cX12_meet 28 = .ok (.if_icmp .ge 50, 3) := by decide +kernel
theorem dX12_meet_31 : decode cX12_meet 31 = .ok (.iload_n 2, 1) := by decide +kernel
theorem dX12_meet_32 : decode cX12_meet 32 = .ok (.iload 5, 2) := by decide +kernel
theorem dX12_meet_34 : decode cX12_meet 34 = .ok (.aload_n 0, 1) := by decide +kernel
theorem dX12_meet_35 : decode cX12_meet 35 = .ok (.getfield 7, 3) := by decide +kernel
theorem dX12_meet_38 : decode cX12_meet 38 = .ok (.bipush 76, 2) := by decide +kernel
theorem dX12_meet_40 : decode cX12_meet 40 = .ok (.iload_n 1, 1) := by decide +kernel
theorem dX12_meet_41 : decode cX12_meet 41 = .ok (.iadd, 1) := by decide +kernel
theorem dX12_meet_42 : decode cX12_meet 42 = .ok (.iaload, 1) := by decide +kernel
theorem dX12_meet_43 : decode cX12_meet 43 = .ok (.imul, 1) := by decide +kernel
theorem dX12_meet_44 : decode cX12_meet 44 = .ok (.iadd, 1) := by decide +kernel
theorem dX12_meet_45 : decode cX12_meet 45 = .ok (.bipush 30, 2) := by decide +kernel
theorem dX12_meet_47 : decode cX12_meet 47 = .ok (.irem, 1) := by decide +kernel
theorem dX12_meet_48 : decode cX12_meet 48 = .ok (.iload 4, 2) := by decide +kernel
theorem dX12_meet_50 : decode cX12_meet 50 = .ok (.iload 5, 2) := by decide +kernel
theorem dX12_meet_52 : decode cX12_meet 52 = .ok (.aload_n 0, 1) := by decide +kernel
theorem dX12_meet_53 : decode cX12_meet 53 = .ok (.getfield 7, 3) := by decide +kernel
theorem dX12_meet_56 : decode cX12_meet 56 = .ok (.bipush 76, 2) := by decide +kernel
theorem dX12_meet_58 : decode cX12_meet 58 = .ok (.iload_n 3, 1) := by decide +kernel
theorem dX12_meet_59 : decode cX12_meet 59 = .ok (.iadd, 1) := by decide +kernel
theorem dX12_meet_60 : decode cX12_meet 60 = .ok (.iaload, 1) := by decide +kernel
theorem dX12_meet_61 : decode cX12_meet 61 = .ok (.imul, 1) := by decide +kernel
theorem dX12_meet_62 : decode cX12_meet 62 = .ok (.iadd, 1) := by decide +kernel
theorem dX12_meet_63 : decode cX12_meet 63 = .ok (.bipush 30, 2) := by decide +kernel
theorem dX12_meet_65 : decode cX12_meet 65 = .ok (.irem, 1) := by decide +kernel
theorem dX12_meet_66 : decode cX12_meet 66 = .ok (.if_icmp .ne 6, 3) := by decide +kernel
theorem dX12_meet_69 : decode cX12_meet 69 = .ok (.iload 5, 2) := by decide +kernel
theorem dX12_meet_71 : decode cX12_meet 71 = .ok (.ireturn, 1) := by decide +kernel
theorem dX12_meet_72 : decode cX12_meet 72 = .ok (.iinc 5 1, 3) := by decide +kernel
theorem dX12_meet_75 : decode cX12_meet 75 = .ok (.goto (-51), 3) := by decide +kernel
theorem dX12_meet_78 : decode cX12_meet 78 = .ok (.iconst (-1), 1) := by decide +kernel
theorem dX12_meet_79 : decode cX12_meet 79 = .ok (.ireturn, 1) := by decide +kernel
theorem dX12_isTurn_0 : decode cX12_isTurn 0 = .ok (.iconst 0, 1) := by decide +kernel
theorem dX12_isTurn_1 : decode cX12_isTurn 1 = .ok (.istore_n 2, 1) := by decide +kernel
theorem dX12_isTurn_2 : decode cX12_isTurn 2 = .ok (.iload_n 2, 1) := by decide +kernel
theorem dX12_isTurn_3 : decode cX12_isTurn 3 = .ok (.bipush 30, 2) := by decide +kernel
theorem dX12_isTurn_5 : decode cX12_isTurn 5 = .ok (.if_icmp .ge 37, 3) := by decide +kernel
theorem dX12_isTurn_8 : decode cX12_isTurn 8 = .ok (.aload_n 0, 1) := by decide +kernel
theorem dX12_isTurn_9 : decode cX12_isTurn 9 = .ok (.getfield 7, 3) := by decide +kernel
theorem dX12_isTurn_12 : decode cX12_isTurn 12 = .ok (.bipush 9, 2) := by decide +kernel
theorem dX12_isTurn_14 : decode cX12_isTurn 14 = .ok (.iload_n 2, 1) := by decide +kernel
theorem dX12_isTurn_15 : decode cX12_isTurn 15 = .ok (.iadd, 1) := by decide +kernel
theorem dX12_isTurn_16 : decode cX12_isTurn 16 = .ok (.iaload, 1) := by decide +kernel
theorem dX12_isTurn_17 : decode cX12_isTurn 17 = .ok (.aload_n 0, 1) := by decide +kernel
theorem dX12_isTurn_18 : decode cX12_isTurn 18 = .ok (.getfield 7, 3) := by decide +kernel
theorem dX12_isTurn_21 : decode cX12_isTurn 21 = .ok (.bipush 9, 2) := by decide +kernel
theorem dX12_isTurn_23 : decode cX12_isTurn 23 = .ok (.iload_n 2, 1) := by decide +kernel
theorem dX12_isTurn_24 : decode cX12_isTurn 24 = .ok (.iload_n 1, 1) := by decide +kernel
theorem dX12_isTurn_25 : decode cX12_isTurn 25 = .ok (.iadd, 1) := by decide +kernel
theorem dX12_isTurn_26 : decode cX12_isTurn 26 = .ok (.bipush 30, 2) := by decide +kernel
theorem dX12_isTurn_28 : decode cX12_isTurn 28 = .ok (.irem, 1) := by decide +kernel
theorem dX12_isTurn_29 : decode cX12_isTurn 29 = .ok (.iadd, 1) := by decide +kernel
theorem dX12_isTurn_30 : decode cX12_isTurn 30 = .ok (.iaload, 1) := by decide +kernel
theorem dX12_isTurn_31 : decode cX12_isTurn 31 = .ok (.if_icmp .eq 5, 3) := by decide +kernel
theorem dX12_isTurn_34 : decode cX12_isTurn 34 = .ok (.iconst 0, 1) := by decide +kernel
theorem dX12_isTurn_35 : decode cX12_isTurn 35 = .ok (.ireturn, 1) := by decide +kernel
theorem dX12_isTurn_36 : decode cX12_isTurn 36 = .ok (.iinc 2 1, 3) := by decide +kernel
theorem dX12_isTurn_39 : decode cX12_isTurn 39 = .ok (.goto (-37), 3) := by decide +kernel
theorem dX12_isTurn_42 : decode cX12_isTurn 42 = .ok (.iconst 1, 1) := by decide +kernel
theorem dX12_isTurn_43 : decode cX12_isTurn 43 = .ok (.ireturn, 1) := by decide +kernel
theorem dX12_period_0 : decode cX12_period 0 = .ok (.iconst 1, 1) := by decide +kernel
theorem dX12_period_1 : decode cX12_period 1 = .ok (.istore_n 1, 1) := by decide +kernel
theorem dX12_period_2 : decode cX12_period 2 = .ok (.aload_n 0, 1) := by decide +kernel
theorem dX12_period_3 : decode cX12_period 3 = .ok (.iload_n 1, 1) := by decide +kernel
theorem dX12_period_4 : decode cX12_period 4 = .ok (.invokevirtual 422, 3) := by decide +kernel
theorem dX12_period_7 : decode cX12_period 7 = .ok (.ifCond .ne 9, 3) := by decide +kernel
theorem dX12_period_10 : decode cX12_period 10 = .ok (.iinc 1 1, 3) := by decide +kernel
theorem dX12_period_13 : decode cX12_period 13 = .ok (.goto (-11), 3) := by decide +kernel
theorem dX12_period_16 : decode cX12_period 16 = .ok (.iload_n 1, 1) := by decide +kernel
theorem dX12_period_17 : decode cX12_period 17 = .ok (.ireturn, 1) := by decide +kernel
theorem dX12_isAhead_0 : decode cX12_isAhead 0 = .ok (.iconst 0, 1) := by decide +kernel
theorem dX12_isAhead_1 : decode cX12_isAhead 1 = .ok (.istore_n 3, 1) := by decide +kernel
theorem dX12_isAhead_2 : decode cX12_isAhead 2 = .ok (.iload_n 3, 1) := by decide +kernel
theorem dX12_isAhead_3 : decode cX12_isAhead 3 = .ok (.bipush 30, 2) := by decide +kernel
theorem dX12_isAhead_5 : decode cX12_isAhead 5 = .ok (.if_icmp .ge 61, 3) := by decide +kernel
theorem dX12_isAhead_8 : decode cX12_isAhead 8 = .ok (.aload_n 0, 1) := by decide +kernel
theorem dX12_isAhead_9 : decode cX12_isAhead 9 = .ok (.getfield 7, 3) := by decide +kernel
theorem dX12_isAhead_12 : decode cX12_isAhead 12 = .ok (.bipush 9, 2) := by decide +kernel
theorem dX12_isAhead_14 : decode cX12_isAhead 14 = .ok (.iload_n 1, 1) := by decide +kernel
theorem dX12_isAhead_15 : decode cX12_isAhead 15 = .ok (.iload_n 3, 1) := by decide +kernel
theorem dX12_isAhead_16 : decode cX12_isAhead 16 = .ok (.iadd, 1) := by decide +kernel
theorem dX12_isAhead_17 : decode cX12_isAhead 17 = .ok (.bipush 30, 2) := by decide +kernel
theorem dX12_isAhead_19 : decode cX12_isAhead 19 = .ok (.irem, 1) := by decide +kernel
theorem dX12_isAhead_20 : decode cX12_isAhead 20 = .ok (.iadd, 1) := by decide +kernel
theorem dX12_isAhead_21 : decode cX12_isAhead 21 = .ok (.iaload, 1) := by decide +kernel
theorem dX12_isAhead_22 : decode cX12_isAhead 22 = .ok (.istore 4, 2) := by decide +kernel
theorem dX12_isAhead_24 : decode cX12_isAhead 24 = .ok (.aload_n 0, 1) := by decide +kernel
theorem dX12_isAhead_25 : decode cX12_isAhead 25 = .ok (.getfield 7, 3) := by decide +kernel
theorem dX12_isAhead_28 : decode cX12_isAhead 28 = .ok (.bipush 9, 2) := by decide +kernel
theorem dX12_isAhead_30 : decode cX12_isAhead 30 = .ok (.iload_n 2, 1) := by decide +kernel
theorem dX12_isAhead_31 : decode cX12_isAhead 31 = .ok (.iload_n 3, 1) := by decide +kernel
theorem dX12_isAhead_32 : decode cX12_isAhead 32 = .ok (.iadd, 1) := by decide +kernel
theorem dX12_isAhead_33 : decode cX12_isAhead 33 = .ok (.bipush 30, 2) := by decide +kernel
theorem dX12_isAhead_35 : decode cX12_isAhead 35 = .ok (.irem, 1) := by decide +kernel
theorem dX12_isAhead_36 : decode cX12_isAhead 36 = .ok (.iadd, 1) := by decide +kernel
theorem dX12_isAhead_37 : decode cX12_isAhead 37 = .ok (.iaload, 1) := by decide +kernel
theorem dX12_isAhead_38 : decode cX12_isAhead 38 = .ok (.istore 5, 2) := by decide +kernel
theorem dX12_isAhead_40 : decode cX12_isAhead 40 = .ok (.iload 4, 2) := by decide +kernel
theorem dX12_isAhead_42 : decode cX12_isAhead 42 = .ok (.iload 5, 2) := by decide +kernel
theorem dX12_isAhead_44 : decode cX12_isAhead 44 = .ok (.if_icmp .eq 16, 3) := by decide +kernel
theorem dX12_isAhead_47 : decode cX12_isAhead 47 = .ok (.iload 4, 2) := by decide +kernel
theorem dX12_isAhead_49 : decode cX12_isAhead 49 = .ok (.iload 5, 2) := by decide +kernel
theorem dX12_isAhead_51 : decode cX12_isAhead 51 = .ok (.if_icmp .ge 7, 3) := by decide +kernel
theorem dX12_isAhead_54 : decode cX12_isAhead 54 = .ok (.iconst 1, 1) := by decide +kernel
theorem dX12_isAhead_55 : decode cX12_isAhead 55 = .ok (.goto 4, 3) := by decide +kernel
theorem dX12_isAhead_58 : decode cX12_isAhead 58 = .ok (.iconst 0, 1) := by decide +kernel
theorem dX12_isAhead_59 : decode cX12_isAhead 59 = .ok (.ireturn, 1) := by decide +kernel
theorem dX12_isAhead_60 : decode cX12_isAhead 60 = .ok (.iinc 3 1, 3) := by decide +kernel
theorem dX12_isAhead_63 : decode cX12_isAhead 63 = .ok (.goto (-61), 3) := by decide +kernel
theorem dX12_isAhead_66 : decode cX12_isAhead 66 = .ok (.iconst 0, 1) := by decide +kernel
theorem dX12_isAhead_67 : decode cX12_isAhead 67 = .ok (.ireturn, 1) := by decide +kernel
theorem dX12_least_0 : decode cX12_least 0 = .ok (.iconst 0, 1) := by decide +kernel
theorem dX12_least_1 : decode cX12_least 1 = .ok (.istore_n 1, 1) := by decide +kernel
theorem dX12_least_2 : decode cX12_least 2 = .ok (.iconst 1, 1) := by decide +kernel
theorem dX12_least_3 : decode cX12_least 3 = .ok (.istore_n 2, 1) := by decide +kernel
theorem dX12_least_4 : decode cX12_least 4 = .ok (.iload_n 2, 1) := by decide +kernel
theorem dX12_least_5 : decode cX12_least 5 = .ok (.bipush 30, 2) := by decide +kernel
theorem dX12_least_7 : decode cX12_least 7 = .ok (.if_icmp .ge 20, 3) := by decide +kernel
theorem dX12_least_10 : decode cX12_least 10 = .ok (.aload_n 0, 1) := by decide +kernel
theorem dX12_least_11 : decode cX12_least 11 = .ok (.iload_n 2, 1) := by decide +kernel
theorem dX12_least_12 : decode cX12_least 12 = .ok (.iload_n 1, 1) := by decide +kernel
theorem dX12_least_13 : decode cX12_least 13 = .ok (.invokevirtual 425, 3) := by decide +kernel
theorem dX12_least_16 : decode cX12_least 16 = .ok (.ifCond .eq 5, 3) := by decide +kernel
theorem dX12_least_19 : decode cX12_least 19 = .ok (.iload_n 2, 1) := by decide +kernel
theorem dX12_least_20 : decode cX12_least 20 = .ok (.istore_n 1, 1) := by decide +kernel
theorem dX12_least_21 : decode cX12_least 21 = .ok (.iinc 2 1, 3) := by decide +kernel
theorem dX12_least_24 : decode cX12_least 24 = .ok (.goto (-20), 3) := by decide +kernel
theorem dX12_least_27 : decode cX12_least 27 = .ok (.iload_n 1, 1) := by decide +kernel
theorem dX12_least_28 : decode cX12_least 28 = .ok (.ireturn, 1) := by decide +kernel
theorem dX12_isMirror_0 : decode cX12_isMirror 0 = .ok (.iconst 0, 1) := by decide +kernel
theorem dX12_isMirror_1 : decode cX12_isMirror 1 = .ok (.istore_n 2, 1) := by decide +kernel
theorem dX12_isMirror_2 : decode cX12_isMirror 2 = .ok (.iload_n 2, 1) := by decide +kernel
theorem dX12_isMirror_3 : decode cX12_isMirror 3 = .ok (.bipush 30, 2) := by decide +kernel
theorem dX12_isMirror_5 : decode cX12_isMirror 5 = .ok (.if_icmp .ge 40, 3) := by decide +kernel
theorem dX12_isMirror_8 : decode cX12_isMirror 8 = .ok (.aload_n 0, 1) := by decide +kernel
theorem dX12_isMirror_9 : decode cX12_isMirror 9 = .ok (.getfield 7, 3) := by decide +kernel
theorem dX12_isMirror_12 : decode cX12_isMirror 12 = .ok (.bipush 9, 2) := by decide +kernel
theorem dX12_isMirror_14 : decode cX12_isMirror 14 = .ok (.iload_n 2, 1) := by decide +kernel
theorem dX12_isMirror_15 : decode cX12_isMirror 15 = .ok (.iadd, 1) := by decide +kernel
theorem dX12_isMirror_16 : decode cX12_isMirror 16 = .ok (.iaload, 1) := by decide +kernel
theorem dX12_isMirror_17 : decode cX12_isMirror 17 = .ok (.aload_n 0, 1) := by decide +kernel
theorem dX12_isMirror_18 : decode cX12_isMirror 18 = .ok (.getfield 7, 3) := by decide +kernel
theorem dX12_isMirror_21 : decode cX12_isMirror 21 = .ok (.bipush 9, 2) := by decide +kernel
theorem dX12_isMirror_23 : decode cX12_isMirror 23 = .ok (.iload_n 1, 1) := by decide +kernel
theorem dX12_isMirror_24 : decode cX12_isMirror 24 = .ok (.iload_n 2, 1) := by decide +kernel
theorem dX12_isMirror_25 : decode cX12_isMirror 25 = .ok (.isub, 1) := by decide +kernel
theorem dX12_isMirror_26 : decode cX12_isMirror 26 = .ok (.bipush 30, 2) := by decide +kernel
theorem dX12_isMirror_28 : decode cX12_isMirror 28 = .ok (.iadd, 1) := by decide +kernel
theorem dX12_isMirror_29 : decode cX12_isMirror 29 = .ok (.bipush 30, 2) := by decide +kernel
theorem dX12_isMirror_31 : decode cX12_isMirror 31 = .ok (.irem, 1) := by decide +kernel
theorem dX12_isMirror_32 : decode cX12_isMirror 32 = .ok (.iadd, 1) := by decide +kernel
theorem dX12_isMirror_33 : decode cX12_isMirror 33 = .ok (.iaload, 1) := by decide +kernel
theorem dX12_isMirror_34 : decode cX12_isMirror 34 = .ok (.if_icmp .eq 5, 3) := by decide +kernel
theorem dX12_isMirror_37 : decode cX12_isMirror 37 = .ok (.iconst 0, 1) := by decide +kernel
theorem dX12_isMirror_38 : decode cX12_isMirror 38 = .ok (.ireturn, 1) := by decide +kernel
theorem dX12_isMirror_39 : decode cX12_isMirror 39 = .ok (.iinc 2 1, 3) := by decide +kernel
theorem dX12_isMirror_42 : decode cX12_isMirror 42 = .ok (.goto (-40), 3) := by decide +kernel
theorem dX12_isMirror_45 : decode cX12_isMirror 45 = .ok (.iconst 1, 1) := by decide +kernel
theorem dX12_isMirror_46 : decode cX12_isMirror 46 = .ok (.ireturn, 1) := by decide +kernel
theorem dX12_mirrors_0 : decode cX12_mirrors 0 = .ok (.iconst 0, 1) := by decide +kernel
theorem dX12_mirrors_1 : decode cX12_mirrors 1 = .ok (.istore_n 1, 1) := by decide +kernel
theorem dX12_mirrors_2 : decode cX12_mirrors 2 = .ok (.iconst 0, 1) := by decide +kernel
theorem dX12_mirrors_3 : decode cX12_mirrors 3 = .ok (.istore_n 2, 1) := by decide +kernel
theorem dX12_mirrors_4 : decode cX12_mirrors 4 = .ok (.iload_n 2, 1) := by decide +kernel
theorem dX12_mirrors_5 : decode cX12_mirrors 5 = .ok (.bipush 30, 2) := by decide +kernel
theorem dX12_mirrors_7 : decode cX12_mirrors 7 = .ok (.if_icmp .ge 25, 3) := by decide +kernel
theorem dX12_mirrors_10 : decode cX12_mirrors 10 = .ok (.iload_n 1, 1) := by decide +kernel
theorem dX12_mirrors_11 : decode cX12_mirrors 11 = .ok (.aload_n 0, 1) := by decide +kernel
theorem dX12_mirrors_12 : decode cX12_mirrors 12 = .ok (.iload_n 2, 1) := by decide +kernel
theorem dX12_mirrors_13 : decode cX12_mirrors 13 = .ok (.invokevirtual 428, 3) := by decide +kernel
theorem dX12_mirrors_16 : decode cX12_mirrors 16 = .ok (.ifCond .eq 7, 3) := by decide +kernel
theorem dX12_mirrors_19 : decode cX12_mirrors 19 = .ok (.iconst 1, 1) := by decide +kernel
theorem dX12_mirrors_20 : decode cX12_mirrors 20 = .ok (.goto 4, 3) := by decide +kernel
theorem dX12_mirrors_23 : decode cX12_mirrors 23 = .ok (.iconst 0, 1) := by decide +kernel
theorem dX12_mirrors_24 : decode cX12_mirrors 24 = .ok (.iadd, 1) := by decide +kernel
theorem dX12_mirrors_25 : decode cX12_mirrors 25 = .ok (.istore_n 1, 1) := by decide +kernel
theorem dX12_mirrors_26 : decode cX12_mirrors 26 = .ok (.iinc 2 1, 3) := by decide +kernel
theorem dX12_mirrors_29 : decode cX12_mirrors 29 = .ok (.goto (-25), 3) := by decide +kernel
theorem dX12_mirrors_32 : decode cX12_mirrors 32 = .ok (.iload_n 1, 1) := by decide +kernel
theorem dX12_mirrors_33 : decode cX12_mirrors 33 = .ok (.ireturn, 1) := by decide +kernel
theorem dX12_longest_0 : decode cX12_longest 0 = .ok (.iload_n 1, 1) := by decide +kernel
theorem dX12_longest_1 : decode cX12_longest 1 = .ok (.iconst 0, 1) := by decide +kernel
theorem dX12_longest_2 : decode cX12_longest 2 = .ok (.iconst 3, 1) := by decide +kernel
theorem dX12_longest_3 : decode cX12_longest 3 = .ok (.invokestatic 69, 3) := by decide +kernel
theorem dX12_longest_6 : decode cX12_longest 6 = .ok (.ifCond .ne 6, 3) := by decide +kernel
theorem dX12_longest_9 : decode cX12_longest 9 = .ok (.bipush (-2), 2) := by decide +kernel
theorem dX12_longest_11 : decode cX12_longest 11 = .ok (.ireturn, 1) := by decide +kernel
theorem dX12_longest_12 : decode cX12_longest 12 = .ok (.iconst 0, 1) := by decide +kernel
theorem dX12_longest_13 : decode cX12_longest 13 = .ok (.istore_n 3, 1) := by decide +kernel
theorem dX12_longest_14 : decode cX12_longest 14 = .ok (.iconst (-1), 1) := by decide +kernel
theorem dX12_longest_15 : decode cX12_longest 15 = .ok (.istore 4, 2) := by decide +kernel
theorem dX12_longest_17 : decode cX12_longest 17 = .ok (.iconst 0, 1) := by decide +kernel
theorem dX12_longest_18 : decode cX12_longest 18 = .ok (.istore 5, 2) := by decide +kernel
theorem dX12_longest_20 : decode cX12_longest 20 = .ok (.iload 5, 2) := by decide +kernel
theorem dX12_longest_22 : decode cX12_longest 22 = .ok (.bipush 30, 2) := by decide +kernel
theorem dX12_longest_24 : decode cX12_longest 24 = .ok (.if_icmp .ge 61, 3) := by decide +kernel
theorem dX12_longest_27 : decode cX12_longest 27 = .ok (.iconst 0, 1) := by decide +kernel
theorem dX12_longest_28 : decode cX12_longest 28 = .ok (.istore 6, 2) := by decide +kernel
theorem dX12_longest_30 : decode cX12_longest 30 = .ok (.iload 6, 2) := by decide +kernel
theorem dX12_longest_32 : decode cX12_longest 32 = .ok (.bipush 30, 2) := by decide +kernel
theorem dX12_longest_34 : decode cX12_longest 34 = .ok (.if_icmp .ge 29, 3) := by decide +kernel
theorem dX12_longest_37 : decode cX12_longest 37 = .ok (.aload_n 0, 1) := by decide +kernel
theorem dX12_longest_38 : decode cX12_longest 38 = .ok (.getfield 7, 3) := by decide +kernel
theorem dX12_longest_41 : decode cX12_longest 41 = .ok (.bipush 9, 2) := by decide +kernel
theorem dX12_longest_43 : decode cX12_longest 43 = .ok (.iload 5, 2) := by decide +kernel
theorem dX12_longest_45 : decode cX12_longest 45 = .ok (.iload 6, 2) := by decide +kernel
theorem dX12_longest_47 : decode cX12_longest 47 = .ok (.iadd, 1) := by decide +kernel
theorem dX12_longest_48 : decode cX12_longest 48 = .ok (.bipush 30, 2) := by decide +kernel
theorem dX12_longest_50 : decode cX12_longest 50 = .ok (.irem, 1) := by decide +kernel
theorem dX12_longest_51 : decode cX12_longest 51 = .ok (.iadd, 1) := by decide +kernel
theorem dX12_longest_52 : decode cX12_longest 52 = .ok (.iaload, 1) := by decide +kernel
theorem dX12_longest_53 : decode cX12_longest 53 = .ok (.iload_n 1, 1) := by decide +kernel
theorem dX12_longest_54 : decode cX12_longest 54 = .ok (.if_icmp .ne 9, 3) := by decide +kernel
theorem dX12_longest_57 : decode cX12_longest 57 = .ok (.iinc 6 1, 3) := by decide +kernel
theorem dX12_longest_60 : decode cX12_longest 60 = .ok (.goto (-30), 3) := by decide +kernel
theorem dX12_longest_63 : decode cX12_longest 63 = .ok (.iload 6, 2) := by decide +kernel
theorem dX12_longest_65 : decode cX12_longest 65 = .ok (.iload_n 3, 1) := by decide +kernel
theorem dX12_longest_66 : decode cX12_longest 66 = .ok (.if_icmp .gt 6, 3) := by decide +kernel
theorem dX12_longest_69 : decode cX12_longest 69 = .ok (.goto 10, 3) := by decide +kernel
theorem dX12_longest_72 : decode cX12_longest 72 = .ok (.iload 6, 2) := by decide +kernel
theorem dX12_longest_74 : decode cX12_longest 74 = .ok (.istore_n 3, 1) := by decide +kernel
theorem dX12_longest_75 : decode cX12_longest 75 = .ok (.iload 5, 2) := by decide +kernel
theorem dX12_longest_77 : decode cX12_longest 77 = .ok (.istore 4, 2) := by decide +kernel
theorem dX12_longest_79 : decode cX12_longest 79 = .ok (.iinc 5 1, 3) := by decide +kernel
theorem dX12_longest_82 : decode cX12_longest 82 = .ok (.goto (-62), 3) := by decide +kernel
theorem dX12_longest_85 : decode cX12_longest 85 = .ok (.iload_n 2, 1) := by decide +kernel
theorem dX12_longest_86 : decode cX12_longest 86 = .ok (.ifCond .eq 8, 3) := by decide +kernel
theorem dX12_longest_89 : decode cX12_longest 89 = .ok (.iload 4, 2) := by decide +kernel
theorem dX12_longest_91 : decode cX12_longest 91 = .ok (.goto 4, 3) := by decide +kernel
theorem dX12_longest_94 : decode cX12_longest 94 = .ok (.iload_n 3, 1) := by decide +kernel
theorem dX12_longest_95 : decode cX12_longest 95 = .ok (.ireturn, 1) := by decide +kernel
theorem dX12_arc_0 : decode cX12_arc 0 = .ok (.iload_n 1, 1) := by decide +kernel
theorem dX12_arc_1 : decode cX12_arc 1 = .ok (.iconst 1, 1) := by decide +kernel
theorem dX12_arc_2 : decode cX12_arc 2 = .ok (.bipush 30, 2) := by decide +kernel
theorem dX12_arc_4 : decode cX12_arc 4 = .ok (.invokestatic 69, 3) := by decide +kernel
theorem dX12_arc_7 : decode cX12_arc 7 = .ok (.ifCond .ne 5, 3) := by decide +kernel
theorem dX12_arc_10 : decode cX12_arc 10 = .ok (.iconst (-1), 1) := by decide +kernel
theorem dX12_arc_11 : decode cX12_arc 11 = .ok (.ireturn, 1) := by decide +kernel
theorem dX12_arc_12 : decode cX12_arc 12 = .ok (.iconst 0, 1) := by decide +kernel
theorem dX12_arc_13 : decode cX12_arc 13 = .ok (.istore_n 2, 1) := by decide +kernel
theorem dX12_arc_14 : decode cX12_arc 14 = .ok (.iconst 1, 1) := by decide +kernel
theorem dX12_arc_15 : decode cX12_arc 15 = .ok (.istore_n 3, 1) := by decide +kernel
theorem dX12_arc_16 : decode cX12_arc 16 = .ok (.iload_n 3, 1) := by decide +kernel
theorem dX12_arc_17 : decode cX12_arc 17 = .ok (.bipush 30, 2) := by decide +kernel
theorem dX12_arc_19 : decode cX12_arc 19 = .ok (.if_icmp .ge 26, 3) := by decide +kernel
theorem dX12_arc_22 : decode cX12_arc 22 = .ok (.aload_n 0, 1) := by decide +kernel
theorem dX12_arc_23 : decode cX12_arc 23 = .ok (.iload_n 3, 1) := by decide +kernel
theorem dX12_arc_24 : decode cX12_arc 24 = .ok (.iload_n 1, 1) := by decide +kernel
theorem dX12_arc_25 : decode cX12_arc 25 = .ok (.invokevirtual 364, 3) := by decide +kernel
theorem dX12_arc_28 : decode cX12_arc 28 = .ok (.aload_n 0, 1) := by decide +kernel
theorem dX12_arc_29 : decode cX12_arc 29 = .ok (.iload_n 2, 1) := by decide +kernel
theorem dX12_arc_30 : decode cX12_arc 30 = .ok (.iload_n 1, 1) := by decide +kernel
theorem dX12_arc_31 : decode cX12_arc 31 = .ok (.invokevirtual 364, 3) := by decide +kernel
theorem dX12_arc_34 : decode cX12_arc 34 = .ok (.if_icmp .le 5, 3) := by decide +kernel
theorem dX12_arc_37 : decode cX12_arc 37 = .ok (.iload_n 3, 1) := by decide +kernel
theorem dX12_arc_38 : decode cX12_arc 38 = .ok (.istore_n 2, 1) := by decide +kernel
theorem dX12_arc_39 : decode cX12_arc 39 = .ok (.iinc 3 1, 3) := by decide +kernel
theorem dX12_arc_42 : decode cX12_arc 42 = .ok (.goto (-26), 3) := by decide +kernel
theorem dX12_arc_45 : decode cX12_arc 45 = .ok (.iload_n 2, 1) := by decide +kernel
theorem dX12_arc_46 : decode cX12_arc 46 = .ok (.ireturn, 1) := by decide +kernel
theorem dX12_quiet_0 : decode cX12_quiet 0 = .ok (.iload_n 1, 1) := by decide +kernel
theorem dX12_quiet_1 : decode cX12_quiet 1 = .ok (.iconst 1, 1) := by decide +kernel
theorem dX12_quiet_2 : decode cX12_quiet 2 = .ok (.bipush 30, 2) := by decide +kernel
theorem dX12_quiet_4 : decode cX12_quiet 4 = .ok (.invokestatic 69, 3) := by decide +kernel
theorem dX12_quiet_7 : decode cX12_quiet 7 = .ok (.ifCond .ne 5, 3) := by decide +kernel
theorem dX12_quiet_10 : decode cX12_quiet 10 = .ok (.iconst (-1), 1) := by decide +kernel
theorem dX12_quiet_11 : decode cX12_quiet 11 = .ok (.ireturn, 1) := by decide +kernel
theorem dX12_quiet_12 : decode cX12_quiet 12 = .ok (.iconst 0, 1) := by decide +kernel
theorem dX12_quiet_13 : decode cX12_quiet 13 = .ok (.istore_n 2, 1) := by decide +kernel
theorem dX12_quiet_14 : decode cX12_quiet 14 = .ok (.iconst 0, 1) := by decide +kernel
theorem dX12_quiet_15 : decode cX12_quiet 15 = .ok (.istore_n 3, 1) := by decide +kernel
theorem dX12_quiet_16 : decode cX12_quiet 16 = .ok (.iload_n 3, 1) := by decide +kernel
theorem dX12_quiet_17 : decode cX12_quiet 17 = .ok (.bipush 30, 2) := by decide +kernel
theorem dX12_quiet_19 : decode cX12_quiet 19 = .ok (.if_icmp .ge 26, 3) := by decide +kernel
theorem dX12_quiet_22 : decode cX12_quiet 22 = .ok (.iload_n 2, 1) := by decide +kernel
theorem dX12_quiet_23 : decode cX12_quiet 23 = .ok (.aload_n 0, 1) := by decide +kernel
theorem dX12_quiet_24 : decode cX12_quiet 24 = .ok (.iload_n 3, 1) := by decide +kernel
theorem dX12_quiet_25 : decode cX12_quiet 25 = .ok (.iload_n 1, 1) := by decide +kernel
theorem dX12_quiet_26 : decode cX12_quiet 26 = .ok (.invokevirtual 364, 3) := by decide +kernel
theorem dX12_quiet_29 : decode cX12_quiet 29 = .ok (.ifCond .ne 7, 3) := by decide +kernel
theorem dX12_quiet_32 : decode cX12_quiet 32 = .ok (.iconst 1, 1) := by decide +kernel
theorem dX12_quiet_33 : decode cX12_quiet 33 = .ok (.goto 4, 3) := by decide +kernel
theorem dX12_quiet_36 : decode cX12_quiet 36 = .ok (.iconst 0, 1) := by decide +kernel
theorem dX12_quiet_37 : decode cX12_quiet 37 = .ok (.iadd, 1) := by decide +kernel
theorem dX12_quiet_38 : decode cX12_quiet 38 = .ok (.istore_n 2, 1) := by decide +kernel
theorem dX12_quiet_39 : decode cX12_quiet 39 = .ok (.iinc 3 1, 3) := by decide +kernel
theorem dX12_quiet_42 : decode cX12_quiet 42 = .ok (.goto (-26), 3) := by decide +kernel
theorem dX12_quiet_45 : decode cX12_quiet 45 = .ok (.iload_n 2, 1) := by decide +kernel
theorem dX12_quiet_46 : decode cX12_quiet 46 = .ok (.ireturn, 1) := by decide +kernel
theorem dX12_changed_0 : decode cX12_changed 0 = .ok (.iconst 0, 1) := by decide +kernel
theorem dX12_changed_1 : decode cX12_changed 1 = .ok (.istore_n 1, 1) := by decide +kernel
theorem dX12_changed_2 : decode cX12_changed 2 = .ok (.iconst 0, 1) := by decide +kernel
theorem dX12_changed_3 : decode cX12_changed 3 = .ok (.istore_n 2, 1) := by decide +kernel
theorem dX12_changed_4 : decode cX12_changed 4 = .ok (.iload_n 2, 1) := by decide +kernel
theorem dX12_changed_5 : decode cX12_changed 5 = .ok (.bipush 30, 2) := by decide +kernel
theorem dX12_changed_7 : decode cX12_changed 7 = .ok (.if_icmp .ge 40, 3) := by decide +kernel
theorem dX12_changed_10 : decode cX12_changed 10 = .ok (.iload_n 1, 1) := by decide +kernel
theorem dX12_changed_11 : decode cX12_changed 11 = .ok (.aload_n 0, 1) := by decide +kernel
theorem dX12_changed_12 : decode cX12_changed 12 = .ok (.getfield 7, 3) := by decide +kernel
theorem dX12_changed_15 : decode cX12_changed 15 = .ok (.bipush 9, 2) := by decide +kernel
theorem dX12_changed_17 : decode cX12_changed 17 = .ok (.iload_n 2, 1) := by decide +kernel
theorem dX12_changed_18 : decode cX12_changed 18 = .ok (.iadd, 1) := by decide +kernel
theorem dX12_changed_19 : decode cX12_changed 19 = .ok (.iaload, 1) := by decide +kernel
theorem dX12_changed_20 : decode cX12_changed 20 = .ok (.aload_n 0, 1) := by decide +kernel
theorem dX12_changed_21 : decode cX12_changed 21 = .ok (.getfield 13, 3) := by decide +kernel
theorem dX12_changed_24 : decode cX12_changed 24 = .ok (.bipush 9, 2) := by decide +kernel
theorem dX12_changed_26 : decode cX12_changed 26 = .ok (.iload_n 2, 1) := by decide +kernel
theorem dX12_changed_27 : decode cX12_changed 27 = .ok (.iadd, 1) := by decide +kernel
theorem dX12_changed_28 : decode cX12_changed 28 = .ok (.iaload, 1) := by decide +kernel
theorem dX12_changed_29 : decode cX12_changed 29 = .ok (.if_icmp .eq 9, 3) := by decide +kernel
theorem dX12_changed_32 : decode cX12_changed 32 = .ok (.iconst 1, 1) := by decide +kernel
theorem dX12_changed_33 : decode cX12_changed 33 = .ok (.iload_n 2, 1) := by decide +kernel
theorem dX12_changed_34 : decode cX12_changed 34 = .ok (.ishl, 1) := by decide +kernel
theorem dX12_changed_35 : decode cX12_changed 35 = .ok (.goto 4, 3) := by decide +kernel
theorem dX12_changed_38 : decode cX12_changed 38 = .ok (.iconst 0, 1) := by decide +kernel
theorem dX12_changed_39 : decode cX12_changed 39 = .ok (.ior, 1) := by decide +kernel
theorem dX12_changed_40 : decode cX12_changed 40 = .ok (.istore_n 1, 1) := by decide +kernel
theorem dX12_changed_41 : decode cX12_changed 41 = .ok (.iinc 2 1, 3) := by decide +kernel
theorem dX12_changed_44 : decode cX12_changed 44 = .ok (.goto (-40), 3) := by decide +kernel
theorem dX12_changed_47 : decode cX12_changed 47 = .ok (.iload_n 1, 1) := by decide +kernel
theorem dX12_changed_48 : decode cX12_changed 48 = .ok (.ireturn, 1) := by decide +kernel
theorem dX12_said_0 : decode cX12_said 0 = .ok (.iload_n 1, 1) := by decide +kernel
theorem dX12_said_1 : decode cX12_said 1 = .ok (.iconst (-1), 1) := by decide +kernel
theorem dX12_said_2 : decode cX12_said 2 = .ok (.if_icmp .ne 12, 3) := by decide +kernel
theorem dX12_said_5 : decode cX12_said 5 = .ok (.aload_n 0, 1) := by decide +kernel
theorem dX12_said_6 : decode cX12_said 6 = .ok (.getfield 7, 3) := by decide +kernel
theorem dX12_said_9 : decode cX12_said 9 = .ok (.iconst 5, 1) := by decide +kernel
theorem dX12_said_10 : decode cX12_said 10 = .ok (.iconst 0, 1) := by decide +kernel
theorem dX12_said_11 : decode cX12_said 11 = .ok (.iastore, 1) := by decide +kernel
theorem dX12_said_12 : decode cX12_said 12 = .ok (.iconst 0, 1) := by decide +kernel
theorem dX12_said_13 : decode cX12_said 13 = .ok (.ireturn, 1) := by decide +kernel
theorem dX12_said_14 : decode cX12_said 14 = .ok (.aload_n 0, 1) := by decide +kernel
theorem dX12_said_15 : decode cX12_said 15 = .ok (.iload_n 1, 1) := by decide +kernel
theorem dX12_said_16 : decode cX12_said 16 = .ok (.iload_n 2, 1) := by decide +kernel
theorem dX12_said_17 : decode cX12_said 17 = .ok (.invokevirtual 387, 3) := by decide +kernel
theorem dX12_said_20 : decode cX12_said 20 = .ok (.ifCond .eq 24, 3) := by decide +kernel
theorem dX12_said_23 : decode cX12_said 23 = .ok (.iload_n 3, 1) := by decide +kernel
theorem dX12_said_24 : decode cX12_said 24 = .ok (.iconst 0, 1) := by decide +kernel
theorem dX12_said_25 : decode cX12_said 25 = .ok (.bipush 10, 2) := by decide +kernel
theorem dX12_said_27 : decode cX12_said 27 = .ok (.invokestatic 69, 3) := by decide +kernel
theorem dX12_said_30 : decode cX12_said 30 = .ok (.ifCond .eq 14, 3) := by decide +kernel
theorem dX12_said_33 : decode cX12_said 33 = .ok (.aload_n 0, 1) := by decide +kernel
theorem dX12_said_34 : decode cX12_said 34 = .ok (.getfield 7, 3) := by decide +kernel
theorem dX12_said_37 : decode cX12_said 37 = .ok (.iconst 5, 1) := by decide +kernel
theorem dX12_said_38 : decode cX12_said 38 = .ok (.iaload, 1) := by decide +kernel
theorem dX12_said_39 : decode cX12_said 39 = .ok (.bipush 8, 2) := by decide +kernel
theorem dX12_said_41 : decode cX12_said 41 = .ok (.if_icmp .ne 6, 3) := by decide +kernel
theorem dX12_said_44 : decode cX12_said 44 = .ok (.bipush (-2), 2) := by decide +kernel
theorem dX12_said_46 : decode cX12_said 46 = .ok (.ireturn, 1) := by decide +kernel
theorem dX12_said_47 : decode cX12_said 47 = .ok (.bipush 121, 2) := by decide +kernel
theorem dX12_said_49 : decode cX12_said 49 = .ok (.iconst 3, 1) := by decide +kernel
theorem dX12_said_50 : decode cX12_said 50 = .ok (.aload_n 0, 1) := by decide +kernel
theorem dX12_said_51 : decode cX12_said 51 = .ok (.getfield 7, 3) := by decide +kernel
theorem dX12_said_54 : decode cX12_said 54 = .ok (.iconst 5, 1) := by decide +kernel
theorem dX12_said_55 : decode cX12_said 55 = .ok (.iaload, 1) := by decide +kernel
theorem dX12_said_56 : decode cX12_said 56 = .ok (.imul, 1) := by decide +kernel
theorem dX12_said_57 : decode cX12_said 57 = .ok (.iadd, 1) := by decide +kernel
theorem dX12_said_58 : decode cX12_said 58 = .ok (.istore 4, 2) := by decide +kernel
theorem dX12_said_60 : decode cX12_said 60 = .ok (.aload_n 0, 1) := by decide +kernel
theorem dX12_said_61 : decode cX12_said 61 = .ok (.getfield 7, 3) := by decide +kernel
theorem dX12_said_64 : decode cX12_said 64 = .ok (.iload 4, 2) := by decide +kernel
theorem dX12_said_66 : decode cX12_said 66 = .ok (.iload_n 1, 1) := by decide +kernel
theorem dX12_said_67 : decode cX12_said 67 = .ok (.iastore, 1) := by decide +kernel
theorem dX12_said_68 : decode cX12_said 68 = .ok (.aload_n 0, 1) := by decide +kernel
theorem dX12_said_69 : decode cX12_said 69 = .ok (.getfield 7, 3) := by decide +kernel
theorem dX12_said_72 : decode cX12_said 72 = .ok (.iload 4, 2) := by decide +kernel
theorem dX12_said_74 : decode cX12_said 74 = .ok (.iconst 1, 1) := by decide +kernel
theorem dX12_said_75 : decode cX12_said 75 = .ok (.iadd, 1) := by decide +kernel
theorem dX12_said_76 : decode cX12_said 76 = .ok (.iload_n 2, 1) := by decide +kernel
theorem dX12_said_77 : decode cX12_said 77 = .ok (.iastore, 1) := by decide +kernel
theorem dX12_said_78 : decode cX12_said 78 = .ok (.aload_n 0, 1) := by decide +kernel
theorem dX12_said_79 : decode cX12_said 79 = .ok (.getfield 7, 3) := by decide +kernel
theorem dX12_said_82 : decode cX12_said 82 = .ok (.iload 4, 2) := by decide +kernel
theorem dX12_said_84 : decode cX12_said 84 = .ok (.iconst 2, 1) := by decide +kernel
theorem dX12_said_85 : decode cX12_said 85 = .ok (.iadd, 1) := by decide +kernel
theorem dX12_said_86 : decode cX12_said 86 = .ok (.iload_n 3, 1) := by decide +kernel
theorem dX12_said_87 : decode cX12_said 87 = .ok (.iastore, 1) := by decide +kernel
theorem dX12_said_88 : decode cX12_said 88 = .ok (.aload_n 0, 1) := by decide +kernel
theorem dX12_said_89 : decode cX12_said 89 = .ok (.getfield 7, 3) := by decide +kernel
theorem dX12_said_92 : decode cX12_said 92 = .ok (.iconst 5, 1) := by decide +kernel
theorem dX12_said_93 : decode cX12_said 93 = .ok (.dup2, 1) := by decide +kernel
theorem dX12_said_94 : decode cX12_said 94 = .ok (.iaload, 1) := by decide +kernel
theorem dX12_said_95 : decode cX12_said 95 = .ok (.iconst 1, 1) := by decide +kernel
theorem dX12_said_96 : decode cX12_said 96 = .ok (.iadd, 1) := by decide +kernel
theorem dX12_said_97 : decode cX12_said 97 = .ok (.iastore, 1) := by decide +kernel
theorem dX12_said_98 : decode cX12_said 98 = .ok (.aload_n 0, 1) := by decide +kernel
theorem dX12_said_99 : decode cX12_said 99 = .ok (.getfield 7, 3) := by decide +kernel
theorem dX12_said_102 : decode cX12_said 102 = .ok (.iconst 5, 1) := by decide +kernel
theorem dX12_said_103 : decode cX12_said 103 = .ok (.iaload, 1) := by decide +kernel
theorem dX12_said_104 : decode cX12_said 104 = .ok (.ireturn, 1) := by decide +kernel
theorem dX12_whose_0 : decode cX12_whose 0 = .ok (.iconst 0, 1) := by decide +kernel
theorem dX12_whose_1 : decode cX12_whose 1 = .ok (.istore_n 1, 1) := by decide +kernel
theorem dX12_whose_2 : decode cX12_whose 2 = .ok (.iconst 0, 1) := by decide +kernel
theorem dX12_whose_3 : decode cX12_whose 3 = .ok (.istore_n 2, 1) := by decide +kernel
theorem dX12_whose_4 : decode cX12_whose 4 = .ok (.iload_n 2, 1) := by decide +kernel
theorem dX12_whose_5 : decode cX12_whose 5 = .ok (.aload_n 0, 1) := by decide +kernel
theorem dX12_whose_6 : decode cX12_whose 6 = .ok (.getfield 7, 3) := by decide +kernel
theorem dX12_whose_9 : decode cX12_whose 9 = .ok (.iconst 1, 1) := by decide +kernel
theorem dX12_whose_10 : decode cX12_whose 10 = .ok (.iaload, 1) := by decide +kernel
theorem dX12_whose_11 : decode cX12_whose 11 = .ok (.if_icmp .ge 95, 3) := by decide +kernel
theorem dX12_whose_14 : decode cX12_whose 14 = .ok (.iconst 1, 1) := by decide +kernel
theorem dX12_whose_15 : decode cX12_whose 15 = .ok (.istore_n 3, 1) := by decide +kernel
theorem dX12_whose_16 : decode cX12_whose 16 = .ok (.bipush 121, 2) := by decide +kernel
theorem dX12_whose_18 : decode cX12_whose 18 = .ok (.istore 4, 2) := by decide +kernel
theorem dX12_whose_20 : decode cX12_whose 20 = .ok (.iload 4, 2) := by decide +kernel
theorem dX12_whose_22 : decode cX12_whose 22 = .ok (.bipush 121, 2) := by decide +kernel
theorem dX12_whose_24 : decode cX12_whose 24 = .ok (.iconst 3, 1) := by decide +kernel
theorem dX12_whose_25 : decode cX12_whose 25 = .ok (.aload_n 0, 1) := by decide +kernel
theorem dX12_whose_26 : decode cX12_whose 26 = .ok (.getfield 7, 3) := by decide +kernel
theorem dX12_whose_29 : decode cX12_whose 29 = .ok (.iconst 5, 1) := by decide +kernel
theorem dX12_whose_30 : decode cX12_whose 30 = .ok (.iaload, 1) := by decide +kernel
theorem dX12_whose_31 : decode cX12_whose 31 = .ok (.imul, 1) := by decide +kernel
theorem dX12_whose_32 : decode cX12_whose 32 = .ok (.iadd, 1) := by decide +kernel
theorem dX12_whose_33 : decode cX12_whose 33 = .ok (.if_icmp .ge 53, 3) := by decide +kernel
theorem dX12_whose_36 : decode cX12_whose 36 = .ok (.iload_n 3, 1) := by decide +kernel
theorem dX12_whose_37 : decode cX12_whose 37 = .ok (.ifCond .eq 41, 3) := by decide +kernel
theorem dX12_whose_40 : decode cX12_whose 40 = .ok (.aload_n 0, 1) := by decide +kernel
theorem dX12_whose_41 : decode cX12_whose 41 = .ok (.iload_n 2, 1) := by decide +kernel
theorem dX12_whose_42 : decode cX12_whose 42 = .ok (.aload_n 0, 1) := by decide +kernel
theorem dX12_whose_43 : decode cX12_whose 43 = .ok (.getfield 7, 3) := by decide +kernel
theorem dX12_whose_46 : decode cX12_whose 46 = .ok (.iload 4, 2) := by decide +kernel
theorem dX12_whose_48 : decode cX12_whose 48 = .ok (.iaload, 1) := by decide +kernel
theorem dX12_whose_49 : decode cX12_whose 49 = .ok (.aload_n 0, 1) := by decide +kernel
theorem dX12_whose_50 : decode cX12_whose 50 = .ok (.getfield 7, 3) := by decide +kernel
theorem dX12_whose_53 : decode cX12_whose 53 = .ok (.iload 4, 2) := by decide +kernel
theorem dX12_whose_55 : decode cX12_whose 55 = .ok (.iconst 1, 1) := by decide +kernel
theorem dX12_whose_56 : decode cX12_whose 56 = .ok (.iadd, 1) := by decide +kernel
theorem dX12_whose_57 : decode cX12_whose 57 = .ok (.iaload, 1) := by decide +kernel
theorem dX12_whose_58 : decode cX12_whose 58 = .ok (.iconst 1, 1) := by decide +kernel
theorem dX12_whose_59 : decode cX12_whose 59 = .ok (.invokevirtual 303, 3) := by decide +kernel
theorem dX12_whose_62 : decode cX12_whose 62 = .ok (.aload_n 0, 1) := by decide +kernel
theorem dX12_whose_63 : decode cX12_whose 63 = .ok (.getfield 7, 3) := by decide +kernel
theorem dX12_whose_66 : decode cX12_whose 66 = .ok (.iload 4, 2) := by decide +kernel
theorem dX12_whose_68 : decode cX12_whose 68 = .ok (.iconst 2, 1) := by decide +kernel
theorem dX12_whose_69 : decode cX12_whose 69 = .ok (.iadd, 1) := by decide +kernel
theorem dX12_whose_70 : decode cX12_whose 70 = .ok (.iaload, 1) := by decide +kernel
theorem dX12_whose_71 : decode cX12_whose 71 = .ok (.if_icmp .ne 7, 3) := by decide +kernel
theorem dX12_whose_74 : decode cX12_whose 74 = .ok (.iconst 1, 1) := by decide +kernel
theorem dX12_whose_75 : decode cX12_whose 75 = .ok (.goto 4, 3) := by decide +kernel
theorem dX12_whose_78 : decode cX12_whose 78 = .ok (.iconst 0, 1) := by decide +kernel
theorem dX12_whose_79 : decode cX12_whose 79 = .ok (.istore_n 3, 1) := by decide +kernel
theorem dX12_whose_80 : decode cX12_whose 80 = .ok (.iinc 4 3, 3) := by decide +kernel
theorem dX12_whose_83 : decode cX12_whose 83 = .ok (.goto (-63), 3) := by decide +kernel
theorem dX12_whose_86 : decode cX12_whose 86 = .ok (.iload_n 1, 1) := by decide +kernel
theorem dX12_whose_87 : decode cX12_whose 87 = .ok (.iload_n 3, 1) := by decide +kernel
theorem dX12_whose_88 : decode cX12_whose 88 = .ok (.ifCond .eq 9, 3) := by decide +kernel
theorem dX12_whose_91 : decode cX12_whose 91 = .ok (.iconst 1, 1) := by decide +kernel
theorem dX12_whose_92 : decode cX12_whose 92 = .ok (.iload_n 2, 1) := by decide +kernel
theorem dX12_whose_93 : decode cX12_whose 93 = .ok (.ishl, 1) := by decide +kernel
theorem dX12_whose_94 : decode cX12_whose 94 = .ok (.goto 4, 3) := by decide +kernel
theorem dX12_whose_97 : decode cX12_whose 97 = .ok (.iconst 0, 1) := by decide +kernel
theorem dX12_whose_98 : decode cX12_whose 98 = .ok (.ior, 1) := by decide +kernel
theorem dX12_whose_99 : decode cX12_whose 99 = .ok (.istore_n 1, 1) := by decide +kernel
theorem dX12_whose_100 : decode cX12_whose 100 = .ok (.iinc 2 1, 3) := by decide +kernel
theorem dX12_whose_103 : decode cX12_whose 103 = .ok (.goto (-99), 3) := by decide +kernel
theorem dX12_whose_106 : decode cX12_whose 106 = .ok (.iload_n 1, 1) := by decide +kernel
theorem dX12_whose_107 : decode cX12_whose 107 = .ok (.ireturn, 1) := by decide +kernel
theorem dX12_image_0 : decode cX12_image 0 = .ok (.aload_n 0, 1) := by decide +kernel
theorem dX12_image_1 : decode cX12_image 1 = .ok (.getfield 7, 3) := by decide +kernel
theorem dX12_image_4 : decode cX12_image 4 = .ok (.aload_n 0, 1) := by decide +kernel
theorem dX12_image_5 : decode cX12_image 5 = .ok (.getfield 13, 3) := by decide +kernel
theorem dX12_image_8 : decode cX12_image 8 = .ok (.invokestatic 65, 3) := by decide +kernel
theorem dX12_image_11 : decode cX12_image 11 = .ok (.aload_n 0, 1) := by decide +kernel
theorem dX12_image_12 : decode cX12_image 12 = .ok (.getfield 7, 3) := by decide +kernel
theorem dX12_image_15 : decode cX12_image 15 = .ok (.bipush 6, 2) := by decide +kernel
theorem dX12_image_17 : decode cX12_image 17 = .ok (.iaload, 1) := by decide +kernel
theorem dX12_image_18 : decode cX12_image 18 = .ok (.ireturn, 1) := by decide +kernel
theorem dX12_back_0 : decode cX12_back 0 = .ok (.aload_n 0, 1) := by decide +kernel
theorem dX12_back_1 : decode cX12_back 1 = .ok (.getfield 13, 3) := by decide +kernel
theorem dX12_back_4 : decode cX12_back 4 = .ok (.aload_n 0, 1) := by decide +kernel
theorem dX12_back_5 : decode cX12_back 5 = .ok (.getfield 7, 3) := by decide +kernel
theorem dX12_back_8 : decode cX12_back 8 = .ok (.invokestatic 65, 3) := by decide +kernel
theorem dX12_back_11 : decode cX12_back 11 = .ok (.aload_n 0, 1) := by decide +kernel
theorem dX12_back_12 : decode cX12_back 12 = .ok (.getfield 7, 3) := by decide +kernel
theorem dX12_back_15 : decode cX12_back 15 = .ok (.bipush 6, 2) := by decide +kernel
theorem dX12_back_17 : decode cX12_back 17 = .ok (.iaload, 1) := by decide +kernel
theorem dX12_back_18 : decode cX12_back 18 = .ok (.ireturn, 1) := by decide +kernel
theorem dX12_about_0 : decode cX12_about 0 = .ok (.iload_n 1, 1) := by decide +kernel
theorem dX12_about_1 : decode cX12_about 1 = .ok (.iconst 0, 1) := by decide +kernel
theorem dX12_about_2 : decode cX12_about 2 = .ok (.iconst 5, 1) := by decide +kernel
theorem dX12_about_3 : decode cX12_about 3 = .ok (.invokestatic 69, 3) := by decide +kernel
theorem dX12_about_6 : decode cX12_about 6 = .ok (.ifCond .eq 12, 3) := by decide +kernel
theorem dX12_about_9 : decode cX12_about 9 = .ok (.aload_n 0, 1) := by decide +kernel
theorem dX12_about_10 : decode cX12_about 10 = .ok (.getfield 7, 3) := by decide +kernel
theorem dX12_about_13 : decode cX12_about 13 = .ok (.iload_n 1, 1) := by decide +kernel
theorem dX12_about_14 : decode cX12_about 14 = .ok (.iaload, 1) := by decide +kernel
theorem dX12_about_15 : decode cX12_about 15 = .ok (.goto 18, 3) := by decide +kernel
theorem dX12_about_18 : decode cX12_about 18 = .ok (.iload_n 1, 1) := by decide +kernel
theorem dX12_about_19 : decode cX12_about 19 = .ok (.bipush 6, 2) := by decide +kernel
theorem dX12_about_21 : decode cX12_about 21 = .ok (.if_icmp .ne 10, 3) := by decide +kernel
theorem dX12_about_24 : decode cX12_about 24 = .ok (.aload_n 0, 1) := by decide +kernel
theorem dX12_about_25 : decode cX12_about 25 = .ok (.getfield 81, 3) := by decide +kernel
theorem dX12_about_28 : decode cX12_about 28 = .ok (.goto 5, 3) := by decide +kernel
theorem dX12_about_31 : decode cX12_about 31 = .ok (.bipush (-2), 2) := by decide +kernel
theorem dX12_about_33 : decode cX12_about 33 = .ok (.ireturn, 1) := by decide +kernel
