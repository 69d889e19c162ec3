/-! what stands at each place of the methods of the law -/
theorem gL_cell_0 : zget (zMt mL_cell) 0 = some (.ldc 7, 2) := rfl
theorem gL_cell_2 : zget (zMt mL_cell) 2 = some (.iload_n 1, 1) := rfl
theorem gL_cell_3 : zget (zMt mL_cell) 3 = some (.aload_n 0, 1) := rfl
theorem gL_cell_4 : zget (zMt mL_cell) 4 = some (.arraylength, 1) := rfl
theorem gL_cell_5 : zget (zMt mL_cell) 5 = some (.if_icmp .ge 9, 3) := rfl
theorem gL_cell_8 : zget (zMt mL_cell) 8 = some (.aload_n 0, 1) := rfl
theorem gL_cell_9 : zget (zMt mL_cell) 9 = some (.iload_n 1, 1) := rfl
theorem gL_cell_10 : zget (zMt mL_cell) 10 = some (.iaload, 1) := rfl
theorem gL_cell_11 : zget (zMt mL_cell) 11 = some (.goto 4, 3) := rfl
theorem gL_cell_14 : zget (zMt mL_cell) 14 = some (.iconst 0, 1) := rfl
theorem gL_cell_15 : zget (zMt mL_cell) 15 = some (.sipush 1009, 3) := rfl
theorem gL_cell_18 : zget (zMt mL_cell) 18 = some (.iload_n 1, 1) := rfl
theorem gL_cell_19 : zget (zMt mL_cell) 19 = some (.imul, 1) := rfl
theorem gL_cell_20 : zget (zMt mL_cell) 20 = some (.iadd, 1) := rfl
theorem gL_cell_21 : zget (zMt mL_cell) 21 = some (.imul, 1) := rfl
theorem gL_cell_22 : zget (zMt mL_cell) 22 = some (.sipush 12345, 3) := rfl
theorem gL_cell_25 : zget (zMt mL_cell) 25 = some (.iadd, 1) := rfl
theorem gL_cell_26 : zget (zMt mL_cell) 26 = some (.istore_n 2, 1) := rfl
theorem gL_cell_27 : zget (zMt mL_cell) 27 = some (.iload_n 2, 1) := rfl
theorem gL_cell_28 : zget (zMt mL_cell) 28 = some (.iload_n 2, 1) := rfl
theorem gL_cell_29 : zget (zMt mL_cell) 29 = some (.bipush 13, 2) := rfl
theorem gL_cell_31 : zget (zMt mL_cell) 31 = some (.iushr, 1) := rfl
theorem gL_cell_32 : zget (zMt mL_cell) 32 = some (.ixor, 1) := rfl
theorem gL_cell_33 : zget (zMt mL_cell) 33 = some (.ldc 8, 2) := rfl
theorem gL_cell_35 : zget (zMt mL_cell) 35 = some (.imul, 1) := rfl
theorem gL_cell_36 : zget (zMt mL_cell) 36 = some (.istore_n 2, 1) := rfl
theorem gL_cell_37 : zget (zMt mL_cell) 37 = some (.iload_n 2, 1) := rfl
theorem gL_cell_38 : zget (zMt mL_cell) 38 = some (.iload_n 2, 1) := rfl
theorem gL_cell_39 : zget (zMt mL_cell) 39 = some (.bipush 16, 2) := rfl
theorem gL_cell_41 : zget (zMt mL_cell) 41 = some (.iushr, 1) := rfl
theorem gL_cell_42 : zget (zMt mL_cell) 42 = some (.ixor, 1) := rfl
theorem gL_cell_43 : zget (zMt mL_cell) 43 = some (.ireturn, 1) := rfl
theorem gL_pick_0 : zget (zMt mL_pick) 0 = some (.aload_n 0, 1) := rfl
theorem gL_pick_1 : zget (zMt mL_pick) 1 = some (.iload_n 1, 1) := rfl
theorem gL_pick_2 : zget (zMt mL_pick) 2 = some (.invokestatic 9, 3) := rfl
theorem gL_pick_5 : zget (zMt mL_pick) 5 = some (.bipush 8, 2) := rfl
theorem gL_pick_7 : zget (zMt mL_pick) 7 = some (.iushr, 1) := rfl
theorem gL_pick_8 : zget (zMt mL_pick) 8 = some (.iload_n 2, 1) := rfl
theorem gL_pick_9 : zget (zMt mL_pick) 9 = some (.irem, 1) := rfl
theorem gL_pick_10 : zget (zMt mL_pick) 10 = some (.ireturn, 1) := rfl
theorem gL_told_0 : zget (zMt mL_told) 0 = some (.iload_n 0, 1) := rfl
theorem gL_told_1 : zget (zMt mL_told) 1 = some (.ifCond .eq 7, 3) := rfl
theorem gL_told_4 : zget (zMt mL_told) 4 = some (.iconst 1, 1) := rfl
theorem gL_told_5 : zget (zMt mL_told) 5 = some (.goto 4, 3) := rfl
theorem gL_told_8 : zget (zMt mL_told) 8 = some (.iconst 0, 1) := rfl
theorem gL_told_9 : zget (zMt mL_told) 9 = some (.ireturn, 1) := rfl
theorem gL_plain_0 : zget (zMt mL_plain) 0 = some (.iload_n 1, 1) := rfl
theorem gL_plain_1 : zget (zMt mL_plain) 1 = some (.tableswitch 138 0 11 #[63, 70, 76, 81, 86, 94, 102, 108, 113, 120, 127, 132], 63) := rfl
theorem gL_plain_64 : zget (zMt mL_plain) 64 = some (.aload_n 0, 1) := rfl
theorem gL_plain_65 : zget (zMt mL_plain) 65 = some (.iload_n 2, 1) := rfl
theorem gL_plain_66 : zget (zMt mL_plain) 66 = some (.iload_n 3, 1) := rfl
theorem gL_plain_67 : zget (zMt mL_plain) 67 = some (.invokevirtual 15, 3) := rfl
theorem gL_plain_70 : zget (zMt mL_plain) 70 = some (.ireturn, 1) := rfl
theorem gL_plain_71 : zget (zMt mL_plain) 71 = some (.aload_n 0, 1) := rfl
theorem gL_plain_72 : zget (zMt mL_plain) 72 = some (.iload_n 2, 1) := rfl
theorem gL_plain_73 : zget (zMt mL_plain) 73 = some (.invokevirtual 21, 3) := rfl
theorem gL_plain_76 : zget (zMt mL_plain) 76 = some (.ireturn, 1) := rfl
theorem gL_plain_77 : zget (zMt mL_plain) 77 = some (.aload_n 0, 1) := rfl
theorem gL_plain_78 : zget (zMt mL_plain) 78 = some (.invokevirtual 25, 3) := rfl
theorem gL_plain_81 : zget (zMt mL_plain) 81 = some (.ireturn, 1) := rfl
theorem gL_plain_82 : zget (zMt mL_plain) 82 = some (.aload_n 0, 1) := rfl
theorem gL_plain_83 : zget (zMt mL_plain) 83 = some (.invokevirtual 29, 3) := rfl
theorem gL_plain_86 : zget (zMt mL_plain) 86 = some (.ireturn, 1) := rfl
theorem gL_plain_87 : zget (zMt mL_plain) 87 = some (.aload_n 0, 1) := rfl
theorem gL_plain_88 : zget (zMt mL_plain) 88 = some (.iload_n 2, 1) := rfl
theorem gL_plain_89 : zget (zMt mL_plain) 89 = some (.iload_n 3, 1) := rfl
theorem gL_plain_90 : zget (zMt mL_plain) 90 = some (.iconst 1, 1) := rfl
theorem gL_plain_91 : zget (zMt mL_plain) 91 = some (.invokevirtual 32, 3) := rfl
theorem gL_plain_94 : zget (zMt mL_plain) 94 = some (.ireturn, 1) := rfl
theorem gL_plain_95 : zget (zMt mL_plain) 95 = some (.aload_n 0, 1) := rfl
theorem gL_plain_96 : zget (zMt mL_plain) 96 = some (.iload_n 2, 1) := rfl
theorem gL_plain_97 : zget (zMt mL_plain) 97 = some (.iload_n 3, 1) := rfl
theorem gL_plain_98 : zget (zMt mL_plain) 98 = some (.iconst 0, 1) := rfl
theorem gL_plain_99 : zget (zMt mL_plain) 99 = some (.invokevirtual 32, 3) := rfl
theorem gL_plain_102 : zget (zMt mL_plain) 102 = some (.ireturn, 1) := rfl
theorem gL_plain_103 : zget (zMt mL_plain) 103 = some (.aload_n 0, 1) := rfl
theorem gL_plain_104 : zget (zMt mL_plain) 104 = some (.iload_n 2, 1) := rfl
theorem gL_plain_105 : zget (zMt mL_plain) 105 = some (.invokevirtual 36, 3) := rfl
theorem gL_plain_108 : zget (zMt mL_plain) 108 = some (.ireturn, 1) := rfl
theorem gL_plain_109 : zget (zMt mL_plain) 109 = some (.aload_n 0, 1) := rfl
theorem gL_plain_110 : zget (zMt mL_plain) 110 = some (.invokevirtual 39, 3) := rfl
theorem gL_plain_113 : zget (zMt mL_plain) 113 = some (.ireturn, 1) := rfl
theorem gL_plain_114 : zget (zMt mL_plain) 114 = some (.aload_n 0, 1) := rfl
theorem gL_plain_115 : zget (zMt mL_plain) 115 = some (.iload_n 2, 1) := rfl
theorem gL_plain_116 : zget (zMt mL_plain) 116 = some (.iload_n 3, 1) := rfl
theorem gL_plain_117 : zget (zMt mL_plain) 117 = some (.invokevirtual 42, 3) := rfl
theorem gL_plain_120 : zget (zMt mL_plain) 120 = some (.ireturn, 1) := rfl
theorem gL_plain_121 : zget (zMt mL_plain) 121 = some (.aload_n 0, 1) := rfl
theorem gL_plain_122 : zget (zMt mL_plain) 122 = some (.iload_n 2, 1) := rfl
theorem gL_plain_123 : zget (zMt mL_plain) 123 = some (.iload_n 3, 1) := rfl
theorem gL_plain_124 : zget (zMt mL_plain) 124 = some (.invokevirtual 45, 3) := rfl
theorem gL_plain_127 : zget (zMt mL_plain) 127 = some (.ireturn, 1) := rfl
theorem gL_plain_128 : zget (zMt mL_plain) 128 = some (.aload_n 0, 1) := rfl
theorem gL_plain_129 : zget (zMt mL_plain) 129 = some (.invokevirtual 48, 3) := rfl
theorem gL_plain_132 : zget (zMt mL_plain) 132 = some (.ireturn, 1) := rfl
theorem gL_plain_133 : zget (zMt mL_plain) 133 = some (.aload_n 0, 1) := rfl
theorem gL_plain_134 : zget (zMt mL_plain) 134 = some (.iload_n 2, 1) := rfl
theorem gL_plain_135 : zget (zMt mL_plain) 135 = some (.invokevirtual 51, 3) := rfl
theorem gL_plain_138 : zget (zMt mL_plain) 138 = some (.ireturn, 1) := rfl
theorem gL_plain_139 : zget (zMt mL_plain) 139 = some (.aload_n 0, 1) := rfl
theorem gL_plain_140 : zget (zMt mL_plain) 140 = some (.invokevirtual 54, 3) := rfl
theorem gL_plain_143 : zget (zMt mL_plain) 143 = some (.ireturn, 1) := rfl
theorem gL_deed_0 : zget (zMt mL_deed) 0 = some (.aload_n 0, 1) := rfl
theorem gL_deed_1 : zget (zMt mL_deed) 1 = some (.iload_n 1, 1) := rfl
theorem gL_deed_2 : zget (zMt mL_deed) 2 = some (.iload_n 2, 1) := rfl
theorem gL_deed_3 : zget (zMt mL_deed) 3 = some (.iload_n 3, 1) := rfl
theorem gL_deed_4 : zget (zMt mL_deed) 4 = some (.invokestatic 57, 3) := rfl
theorem gL_deed_7 : zget (zMt mL_deed) 7 = some (.ireturn, 1) := rfl
theorem gL_deed_8 : zget (zMt mL_deed) 8 = some (.astore 4, 2) := rfl
theorem gL_deed_10 : zget (zMt mL_deed) 10 = some (.sipush (-2001), 3) := rfl
theorem gL_deed_13 : zget (zMt mL_deed) 13 = some (.ireturn, 1) := rfl
theorem gL_deed_14 : zget (zMt mL_deed) 14 = some (.astore 4, 2) := rfl
theorem gL_deed_16 : zget (zMt mL_deed) 16 = some (.sipush (-2002), 3) := rfl
theorem gL_deed_19 : zget (zMt mL_deed) 19 = some (.ireturn, 1) := rfl
theorem gL_deed_20 : zget (zMt mL_deed) 20 = some (.astore 4, 2) := rfl
theorem gL_deed_22 : zget (zMt mL_deed) 22 = some (.sipush (-2003), 3) := rfl
theorem gL_deed_25 : zget (zMt mL_deed) 25 = some (.ireturn, 1) := rfl
theorem gL_deed_26 : zget (zMt mL_deed) 26 = some (.astore 4, 2) := rfl
theorem gL_deed_28 : zget (zMt mL_deed) 28 = some (.sipush (-2004), 3) := rfl
theorem gL_deed_31 : zget (zMt mL_deed) 31 = some (.ireturn, 1) := rfl
theorem gL_deed_32 : zget (zMt mL_deed) 32 = some (.astore 4, 2) := rfl
theorem gL_deed_34 : zget (zMt mL_deed) 34 = some (.sipush (-2005), 3) := rfl
theorem gL_deed_37 : zget (zMt mL_deed) 37 = some (.ireturn, 1) := rfl
theorem gL_asked_0 : zget (zMt mL_asked) 0 = some (.iload_n 1, 1) := rfl
theorem gL_asked_1 : zget (zMt mL_asked) 1 = some (.tableswitch 191 0 16 #[83, 89, 95, 101, 107, 113, 118, 127, 133, 139, 145, 154, 159, 168, 174, 180, 185], 83) := rfl
theorem gL_asked_84 : zget (zMt mL_asked) 84 = some (.aload_n 0, 1) := rfl
theorem gL_asked_85 : zget (zMt mL_asked) 85 = some (.iload_n 2, 1) := rfl
theorem gL_asked_86 : zget (zMt mL_asked) 86 = some (.invokevirtual 71, 3) := rfl
theorem gL_asked_89 : zget (zMt mL_asked) 89 = some (.ireturn, 1) := rfl
theorem gL_asked_90 : zget (zMt mL_asked) 90 = some (.aload_n 0, 1) := rfl
theorem gL_asked_91 : zget (zMt mL_asked) 91 = some (.iload_n 2, 1) := rfl
theorem gL_asked_92 : zget (zMt mL_asked) 92 = some (.invokevirtual 75, 3) := rfl
theorem gL_asked_95 : zget (zMt mL_asked) 95 = some (.ireturn, 1) := rfl
theorem gL_asked_96 : zget (zMt mL_asked) 96 = some (.aload_n 0, 1) := rfl
theorem gL_asked_97 : zget (zMt mL_asked) 97 = some (.iload_n 2, 1) := rfl
theorem gL_asked_98 : zget (zMt mL_asked) 98 = some (.invokevirtual 78, 3) := rfl
theorem gL_asked_101 : zget (zMt mL_asked) 101 = some (.ireturn, 1) := rfl
theorem gL_asked_102 : zget (zMt mL_asked) 102 = some (.aload_n 0, 1) := rfl
theorem gL_asked_103 : zget (zMt mL_asked) 103 = some (.iload_n 2, 1) := rfl
theorem gL_asked_104 : zget (zMt mL_asked) 104 = some (.invokevirtual 81, 3) := rfl
theorem gL_asked_107 : zget (zMt mL_asked) 107 = some (.ireturn, 1) := rfl
theorem gL_asked_108 : zget (zMt mL_asked) 108 = some (.aload_n 0, 1) := rfl
theorem gL_asked_109 : zget (zMt mL_asked) 109 = some (.iload_n 2, 1) := rfl
theorem gL_asked_110 : zget (zMt mL_asked) 110 = some (.invokevirtual 84, 3) := rfl
theorem gL_asked_113 : zget (zMt mL_asked) 113 = some (.ireturn, 1) := rfl
theorem gL_asked_114 : zget (zMt mL_asked) 114 = some (.aload_n 0, 1) := rfl
theorem gL_asked_115 : zget (zMt mL_asked) 115 = some (.invokevirtual 87, 3) := rfl
theorem gL_asked_118 : zget (zMt mL_asked) 118 = some (.ireturn, 1) := rfl
theorem gL_asked_119 : zget (zMt mL_asked) 119 = some (.aload_n 0, 1) := rfl
theorem gL_asked_120 : zget (zMt mL_asked) 120 = some (.iload_n 2, 1) := rfl
theorem gL_asked_121 : zget (zMt mL_asked) 121 = some (.invokevirtual 90, 3) := rfl
theorem gL_asked_124 : zget (zMt mL_asked) 124 = some (.invokestatic 94, 3) := rfl
theorem gL_asked_127 : zget (zMt mL_asked) 127 = some (.ireturn, 1) := rfl
theorem gL_asked_128 : zget (zMt mL_asked) 128 = some (.aload_n 0, 1) := rfl
theorem gL_asked_129 : zget (zMt mL_asked) 129 = some (.iload_n 2, 1) := rfl
theorem gL_asked_130 : zget (zMt mL_asked) 130 = some (.invokevirtual 98, 3) := rfl
theorem gL_asked_133 : zget (zMt mL_asked) 133 = some (.ireturn, 1) := rfl
theorem gL_asked_134 : zget (zMt mL_asked) 134 = some (.aload_n 0, 1) := rfl
theorem gL_asked_135 : zget (zMt mL_asked) 135 = some (.iload_n 2, 1) := rfl
theorem gL_asked_136 : zget (zMt mL_asked) 136 = some (.invokevirtual 101, 3) := rfl
theorem gL_asked_139 : zget (zMt mL_asked) 139 = some (.ireturn, 1) := rfl
theorem gL_asked_140 : zget (zMt mL_asked) 140 = some (.aload_n 0, 1) := rfl
theorem gL_asked_141 : zget (zMt mL_asked) 141 = some (.iload_n 2, 1) := rfl
theorem gL_asked_142 : zget (zMt mL_asked) 142 = some (.invokevirtual 104, 3) := rfl
theorem gL_asked_145 : zget (zMt mL_asked) 145 = some (.ireturn, 1) := rfl
theorem gL_asked_146 : zget (zMt mL_asked) 146 = some (.aload_n 0, 1) := rfl
theorem gL_asked_147 : zget (zMt mL_asked) 147 = some (.iload_n 2, 1) := rfl
theorem gL_asked_148 : zget (zMt mL_asked) 148 = some (.invokevirtual 107, 3) := rfl
theorem gL_asked_151 : zget (zMt mL_asked) 151 = some (.invokestatic 94, 3) := rfl
theorem gL_asked_154 : zget (zMt mL_asked) 154 = some (.ireturn, 1) := rfl
theorem gL_asked_155 : zget (zMt mL_asked) 155 = some (.aload_n 0, 1) := rfl
theorem gL_asked_156 : zget (zMt mL_asked) 156 = some (.invokevirtual 110, 3) := rfl
theorem gL_asked_159 : zget (zMt mL_asked) 159 = some (.ireturn, 1) := rfl
theorem gL_asked_160 : zget (zMt mL_asked) 160 = some (.aload_n 0, 1) := rfl
theorem gL_asked_161 : zget (zMt mL_asked) 161 = some (.iload_n 2, 1) := rfl
theorem gL_asked_162 : zget (zMt mL_asked) 162 = some (.invokevirtual 113, 3) := rfl
theorem gL_asked_165 : zget (zMt mL_asked) 165 = some (.invokestatic 94, 3) := rfl
theorem gL_asked_168 : zget (zMt mL_asked) 168 = some (.ireturn, 1) := rfl
theorem gL_asked_169 : zget (zMt mL_asked) 169 = some (.aload_n 0, 1) := rfl
theorem gL_asked_170 : zget (zMt mL_asked) 170 = some (.iload_n 2, 1) := rfl
theorem gL_asked_171 : zget (zMt mL_asked) 171 = some (.invokevirtual 116, 3) := rfl
theorem gL_asked_174 : zget (zMt mL_asked) 174 = some (.ireturn, 1) := rfl
theorem gL_asked_175 : zget (zMt mL_asked) 175 = some (.aload_n 0, 1) := rfl
theorem gL_asked_176 : zget (zMt mL_asked) 176 = some (.iload_n 2, 1) := rfl
theorem gL_asked_177 : zget (zMt mL_asked) 177 = some (.invokevirtual 119, 3) := rfl
theorem gL_asked_180 : zget (zMt mL_asked) 180 = some (.ireturn, 1) := rfl
theorem gL_asked_181 : zget (zMt mL_asked) 181 = some (.aload_n 0, 1) := rfl
theorem gL_asked_182 : zget (zMt mL_asked) 182 = some (.invokevirtual 122, 3) := rfl
theorem gL_asked_185 : zget (zMt mL_asked) 185 = some (.ireturn, 1) := rfl
theorem gL_asked_186 : zget (zMt mL_asked) 186 = some (.aload_n 0, 1) := rfl
theorem gL_asked_187 : zget (zMt mL_asked) 187 = some (.iload_n 2, 1) := rfl
theorem gL_asked_188 : zget (zMt mL_asked) 188 = some (.invokevirtual 125, 3) := rfl
theorem gL_asked_191 : zget (zMt mL_asked) 191 = some (.ireturn, 1) := rfl
theorem gL_asked_192 : zget (zMt mL_asked) 192 = some (.aload_n 0, 1) := rfl
theorem gL_asked_193 : zget (zMt mL_asked) 193 = some (.iload_n 2, 1) := rfl
theorem gL_asked_194 : zget (zMt mL_asked) 194 = some (.invokevirtual 128, 3) := rfl
theorem gL_asked_197 : zget (zMt mL_asked) 197 = some (.ireturn, 1) := rfl
theorem gL_ask_0 : zget (zMt mL_ask) 0 = some (.aload_n 0, 1) := rfl
theorem gL_ask_1 : zget (zMt mL_ask) 1 = some (.iload_n 1, 1) := rfl
theorem gL_ask_2 : zget (zMt mL_ask) 2 = some (.iload_n 2, 1) := rfl
theorem gL_ask_3 : zget (zMt mL_ask) 3 = some (.invokestatic 131, 3) := rfl
theorem gL_ask_6 : zget (zMt mL_ask) 6 = some (.ireturn, 1) := rfl
theorem gL_ask_7 : zget (zMt mL_ask) 7 = some (.astore_n 3, 1) := rfl
theorem gL_ask_8 : zget (zMt mL_ask) 8 = some (.sipush (-2001), 3) := rfl
theorem gL_ask_11 : zget (zMt mL_ask) 11 = some (.ireturn, 1) := rfl
theorem gL_ask_12 : zget (zMt mL_ask) 12 = some (.astore_n 3, 1) := rfl
theorem gL_ask_13 : zget (zMt mL_ask) 13 = some (.sipush (-2002), 3) := rfl
theorem gL_ask_16 : zget (zMt mL_ask) 16 = some (.ireturn, 1) := rfl
theorem gL_ask_17 : zget (zMt mL_ask) 17 = some (.astore_n 3, 1) := rfl
theorem gL_ask_18 : zget (zMt mL_ask) 18 = some (.sipush (-2003), 3) := rfl
theorem gL_ask_21 : zget (zMt mL_ask) 21 = some (.ireturn, 1) := rfl
theorem gL_ask_22 : zget (zMt mL_ask) 22 = some (.astore_n 3, 1) := rfl
theorem gL_ask_23 : zget (zMt mL_ask) 23 = some (.sipush (-2004), 3) := rfl
theorem gL_ask_26 : zget (zMt mL_ask) 26 = some (.ireturn, 1) := rfl
theorem gL_ask_27 : zget (zMt mL_ask) 27 = some (.astore_n 3, 1) := rfl
theorem gL_ask_28 : zget (zMt mL_ask) 28 = some (.sipush (-2005), 3) := rfl
theorem gL_ask_31 : zget (zMt mL_ask) 31 = some (.ireturn, 1) := rfl
theorem gL_areEntries_0 : zget (zMt mL_areEntries) 0 = some (.aload_n 0, 1) := rfl
theorem gL_areEntries_1 : zget (zMt mL_areEntries) 1 = some (.invokevirtual 135, 3) := rfl
theorem gL_areEntries_4 : zget (zMt mL_areEntries) 4 = some (.istore_n 1, 1) := rfl
theorem gL_areEntries_5 : zget (zMt mL_areEntries) 5 = some (.iconst 0, 1) := rfl
theorem gL_areEntries_6 : zget (zMt mL_areEntries) 6 = some (.istore_n 2, 1) := rfl
theorem gL_areEntries_7 : zget (zMt mL_areEntries) 7 = some (.iconst 0, 1) := rfl
theorem gL_areEntries_8 : zget (zMt mL_areEntries) 8 = some (.istore_n 3, 1) := rfl
theorem gL_areEntries_9 : zget (zMt mL_areEntries) 9 = some (.iload_n 1, 1) := rfl
theorem gL_areEntries_10 : zget (zMt mL_areEntries) 10 = some (.ifCond .lt 50, 3) := rfl
theorem gL_areEntries_13 : zget (zMt mL_areEntries) 13 = some (.iload_n 1, 1) := rfl
theorem gL_areEntries_14 : zget (zMt mL_areEntries) 14 = some (.bipush 30, 2) := rfl
theorem gL_areEntries_16 : zget (zMt mL_areEntries) 16 = some (.if_icmp .gt 44, 3) := rfl
theorem gL_areEntries_19 : zget (zMt mL_areEntries) 19 = some (.aload_n 0, 1) := rfl
theorem gL_areEntries_20 : zget (zMt mL_areEntries) 20 = some (.iconst 0, 1) := rfl
theorem gL_areEntries_21 : zget (zMt mL_areEntries) 21 = some (.iload_n 1, 1) := rfl
theorem gL_areEntries_22 : zget (zMt mL_areEntries) 22 = some (.invokestatic 138, 3) := rfl
theorem gL_areEntries_25 : zget (zMt mL_areEntries) 25 = some (.sipush (-2001), 3) := rfl
theorem gL_areEntries_28 : zget (zMt mL_areEntries) 28 = some (.if_icmp .ne 32, 3) := rfl
theorem gL_areEntries_31 : zget (zMt mL_areEntries) 31 = some (.aload_n 0, 1) := rfl
theorem gL_areEntries_32 : zget (zMt mL_areEntries) 32 = some (.iconst 0, 1) := rfl
theorem gL_areEntries_33 : zget (zMt mL_areEntries) 33 = some (.iconst (-1), 1) := rfl
theorem gL_areEntries_34 : zget (zMt mL_areEntries) 34 = some (.invokestatic 138, 3) := rfl
theorem gL_areEntries_37 : zget (zMt mL_areEntries) 37 = some (.sipush (-2001), 3) := rfl
theorem gL_areEntries_40 : zget (zMt mL_areEntries) 40 = some (.if_icmp .ne 20, 3) := rfl
theorem gL_areEntries_43 : zget (zMt mL_areEntries) 43 = some (.aload_n 0, 1) := rfl
theorem gL_areEntries_44 : zget (zMt mL_areEntries) 44 = some (.bipush 6, 2) := rfl
theorem gL_areEntries_46 : zget (zMt mL_areEntries) 46 = some (.iload_n 1, 1) := rfl
theorem gL_areEntries_47 : zget (zMt mL_areEntries) 47 = some (.invokestatic 138, 3) := rfl
theorem gL_areEntries_50 : zget (zMt mL_areEntries) 50 = some (.sipush (-2001), 3) := rfl
theorem gL_areEntries_53 : zget (zMt mL_areEntries) 53 = some (.if_icmp .ne 7, 3) := rfl
theorem gL_areEntries_56 : zget (zMt mL_areEntries) 56 = some (.iconst 1, 1) := rfl
theorem gL_areEntries_57 : zget (zMt mL_areEntries) 57 = some (.goto 4, 3) := rfl
theorem gL_areEntries_60 : zget (zMt mL_areEntries) 60 = some (.iconst 0, 1) := rfl
theorem gL_areEntries_61 : zget (zMt mL_areEntries) 61 = some (.istore 4, 2) := rfl
theorem gL_areEntries_63 : zget (zMt mL_areEntries) 63 = some (.bipush 100, 2) := rfl
theorem gL_areEntries_65 : zget (zMt mL_areEntries) 65 = some (.newarray .int, 2) := rfl
theorem gL_areEntries_67 : zget (zMt mL_areEntries) 67 = some (.astore 5, 2) := rfl
theorem gL_areEntries_69 : zget (zMt mL_areEntries) 69 = some (.iconst 0, 1) := rfl
theorem gL_areEntries_70 : zget (zMt mL_areEntries) 70 = some (.istore 6, 2) := rfl
theorem gL_areEntries_72 : zget (zMt mL_areEntries) 72 = some (.iload 6, 2) := rfl
theorem gL_areEntries_74 : zget (zMt mL_areEntries) 74 = some (.iload_n 1, 1) := rfl
theorem gL_areEntries_75 : zget (zMt mL_areEntries) 75 = some (.if_icmp .ge 206, 3) := rfl
theorem gL_areEntries_78 : zget (zMt mL_areEntries) 78 = some (.iload 4, 2) := rfl
theorem gL_areEntries_80 : zget (zMt mL_areEntries) 80 = some (.ifCond .eq 201, 3) := rfl
theorem gL_areEntries_83 : zget (zMt mL_areEntries) 83 = some (.aload_n 0, 1) := rfl
theorem gL_areEntries_84 : zget (zMt mL_areEntries) 84 = some (.iconst 0, 1) := rfl
theorem gL_areEntries_85 : zget (zMt mL_areEntries) 85 = some (.iload 6, 2) := rfl
theorem gL_areEntries_87 : zget (zMt mL_areEntries) 87 = some (.invokestatic 138, 3) := rfl
theorem gL_areEntries_90 : zget (zMt mL_areEntries) 90 = some (.istore 7, 2) := rfl
theorem gL_areEntries_92 : zget (zMt mL_areEntries) 92 = some (.aload_n 0, 1) := rfl
theorem gL_areEntries_93 : zget (zMt mL_areEntries) 93 = some (.iconst 1, 1) := rfl
theorem gL_areEntries_94 : zget (zMt mL_areEntries) 94 = some (.iload 6, 2) := rfl
theorem gL_areEntries_96 : zget (zMt mL_areEntries) 96 = some (.invokestatic 138, 3) := rfl
theorem gL_areEntries_99 : zget (zMt mL_areEntries) 99 = some (.istore 8, 2) := rfl
theorem gL_areEntries_101 : zget (zMt mL_areEntries) 101 = some (.aload_n 0, 1) := rfl
theorem gL_areEntries_102 : zget (zMt mL_areEntries) 102 = some (.iconst 2, 1) := rfl
theorem gL_areEntries_103 : zget (zMt mL_areEntries) 103 = some (.iload 6, 2) := rfl
theorem gL_areEntries_105 : zget (zMt mL_areEntries) 105 = some (.invokestatic 138, 3) := rfl
theorem gL_areEntries_108 : zget (zMt mL_areEntries) 108 = some (.istore 9, 2) := rfl
theorem gL_areEntries_110 : zget (zMt mL_areEntries) 110 = some (.iload_n 2, 1) := rfl
theorem gL_areEntries_111 : zget (zMt mL_areEntries) 111 = some (.iload 7, 2) := rfl
theorem gL_areEntries_113 : zget (zMt mL_areEntries) 113 = some (.bipush 125, 2) := rfl
theorem gL_areEntries_115 : zget (zMt mL_areEntries) 115 = some (.if_icmp .ne 7, 3) := rfl
theorem gL_areEntries_118 : zget (zMt mL_areEntries) 118 = some (.iconst 1, 1) := rfl
theorem gL_areEntries_119 : zget (zMt mL_areEntries) 119 = some (.goto 4, 3) := rfl
theorem gL_areEntries_122 : zget (zMt mL_areEntries) 122 = some (.iconst 0, 1) := rfl
theorem gL_areEntries_123 : zget (zMt mL_areEntries) 123 = some (.isub, 1) := rfl
theorem gL_areEntries_124 : zget (zMt mL_areEntries) 124 = some (.istore_n 2, 1) := rfl
theorem gL_areEntries_125 : zget (zMt mL_areEntries) 125 = some (.iload_n 2, 1) := rfl
theorem gL_areEntries_126 : zget (zMt mL_areEntries) 126 = some (.ifCond .lt 110, 3) := rfl
theorem gL_areEntries_129 : zget (zMt mL_areEntries) 129 = some (.aload_n 0, 1) := rfl
theorem gL_areEntries_130 : zget (zMt mL_areEntries) 130 = some (.iconst 3, 1) := rfl
theorem gL_areEntries_131 : zget (zMt mL_areEntries) 131 = some (.iload 6, 2) := rfl
theorem gL_areEntries_133 : zget (zMt mL_areEntries) 133 = some (.invokestatic 138, 3) := rfl
theorem gL_areEntries_136 : zget (zMt mL_areEntries) 136 = some (.iload_n 2, 1) := rfl
theorem gL_areEntries_137 : zget (zMt mL_areEntries) 137 = some (.if_icmp .ne 99, 3) := rfl
theorem gL_areEntries_140 : zget (zMt mL_areEntries) 140 = some (.iload 7, 2) := rfl
theorem gL_areEntries_142 : zget (zMt mL_areEntries) 142 = some (.bipush 110, 2) := rfl
theorem gL_areEntries_144 : zget (zMt mL_areEntries) 144 = some (.if_icmp .ne 7, 3) := rfl
theorem gL_areEntries_147 : zget (zMt mL_areEntries) 147 = some (.iconst 1, 1) := rfl
theorem gL_areEntries_148 : zget (zMt mL_areEntries) 148 = some (.goto 4, 3) := rfl
theorem gL_areEntries_151 : zget (zMt mL_areEntries) 151 = some (.iconst 0, 1) := rfl
theorem gL_areEntries_152 : zget (zMt mL_areEntries) 152 = some (.iload 8, 2) := rfl
theorem gL_areEntries_154 : zget (zMt mL_areEntries) 154 = some (.ifCond .lt 7, 3) := rfl
theorem gL_areEntries_157 : zget (zMt mL_areEntries) 157 = some (.iconst 1, 1) := rfl
theorem gL_areEntries_158 : zget (zMt mL_areEntries) 158 = some (.goto 4, 3) := rfl
theorem gL_areEntries_161 : zget (zMt mL_areEntries) 161 = some (.iconst 0, 1) := rfl
theorem gL_areEntries_162 : zget (zMt mL_areEntries) 162 = some (.if_icmp .ne 74, 3) := rfl
theorem gL_areEntries_165 : zget (zMt mL_areEntries) 165 = some (.iload 7, 2) := rfl
theorem gL_areEntries_167 : zget (zMt mL_areEntries) 167 = some (.bipush 110, 2) := rfl
theorem gL_areEntries_169 : zget (zMt mL_areEntries) 169 = some (.if_icmp .eq 11, 3) := rfl
theorem gL_areEntries_172 : zget (zMt mL_areEntries) 172 = some (.iload 8, 2) := rfl
theorem gL_areEntries_174 : zget (zMt mL_areEntries) 174 = some (.sipush (-2003), 3) := rfl
theorem gL_areEntries_177 : zget (zMt mL_areEntries) 177 = some (.if_icmp .ne 59, 3) := rfl
theorem gL_areEntries_180 : zget (zMt mL_areEntries) 180 = some (.iload 7, 2) := rfl
theorem gL_areEntries_182 : zget (zMt mL_areEntries) 182 = some (.bipush 110, 2) := rfl
theorem gL_areEntries_184 : zget (zMt mL_areEntries) 184 = some (.if_icmp .ne 19, 3) := rfl
theorem gL_areEntries_187 : zget (zMt mL_areEntries) 187 = some (.iload 9, 2) := rfl
theorem gL_areEntries_189 : zget (zMt mL_areEntries) 189 = some (.iconst 1, 1) := rfl
theorem gL_areEntries_190 : zget (zMt mL_areEntries) 190 = some (.if_icmp .lt 46, 3) := rfl
theorem gL_areEntries_193 : zget (zMt mL_areEntries) 193 = some (.iload 9, 2) := by decide +kernel
theorem gL_areEntries_195 : zget (zMt mL_areEntries) 195 = some (.bipush 9, 2) := by decide +kernel
theorem gL_areEntries_197 : zget (zMt mL_areEntries) 197 = some (.if_icmp .gt 39, 3) := by decide +kernel
theorem gL_areEntries_200 : zget (zMt mL_areEntries) 200 = some (.goto 32, 3) := by decide +kernel
theorem gL_areEntries_203 : zget (zMt mL_areEntries) 203 = some (.iload 7, 2) := by decide +kernel
theorem gL_areEntries_205 : zget (zMt mL_areEntries) 205 = some (.bipush 99, 2) := by decide +kernel
theorem gL_areEntries_207 : zget (zMt mL_areEntries) 207 = some (.if_icmp .ne 19, 3) := by decide +kernel
theorem gL_areEntries_210 : zget (zMt mL_areEntries) 210 = some (.iload 9, 2) := by decide +kernel
theorem gL_areEntries_212 : zget (zMt mL_areEntries) 212 = some (.iconst 5, 1) := by decide +kernel
theorem gL_areEntries_213 : zget (zMt mL_areEntries) 213 = some (.if_icmp .lt 23, 3) := by decide +kernel
theorem gL_areEntries_216 : zget (zMt mL_areEntries) 216 = some (.iload 9, 2) := by decide +kernel
theorem gL_areEntries_218 : zget (zMt mL_areEntries) 218 = some (.bipush 13, 2) := by decide +kernel
theorem gL_areEntries_220 : zget (zMt mL_areEntries) 220 = some (.if_icmp .gt 16, 3) := by decide +kernel
theorem gL_areEntries_223 : zget (zMt mL_areEntries) 223 = some (.goto 9, 3) := by decide +kernel
theorem gL_areEntries_226 : zget (zMt mL_areEntries) 226 = some (.iload 9, 2) := by decide +kernel
theorem gL_areEntries_228 : zget (zMt mL_areEntries) 228 = some (.iconst 1, 1) := by decide +kernel
theorem gL_areEntries_229 : zget (zMt mL_areEntries) 229 = some (.if_icmp .ne 7, 3) := by decide +kernel
theorem gL_areEntries_232 : zget (zMt mL_areEntries) 232 = some (.iconst 1, 1) := by decide +kernel
theorem gL_areEntries_233 : zget (zMt mL_areEntries) 233 = some (.goto 4, 3) := by decide +kernel
theorem gL_areEntries_236 : zget (zMt mL_areEntries) 236 = some (.iconst 0, 1) := by decide +kernel
theorem gL_areEntries_237 : zget (zMt mL_areEntries) 237 = some (.istore 4, 2) := by decide +kernel
theorem gL_areEntries_239 : zget (zMt mL_areEntries) 239 = some (.iload_n 2, 1) := by decide +kernel
theorem gL_areEntries_240 : zget (zMt mL_areEntries) 240 = some (.iload 7, 2) := by decide +kernel
theorem gL_areEntries_242 : zget (zMt mL_areEntries) 242 = some (.bipush 123, 2) := by decide +kernel
theorem gL_areEntries_244 : zget (zMt mL_areEntries) 244 = some (.if_icmp .ne 7, 3) := by decide +kernel
theorem gL_areEntries_247 : zget (zMt mL_areEntries) 247 = some (.iconst 1, 1) := by decide +kernel
theorem gL_areEntries_248 : zget (zMt mL_areEntries) 248 = some (.goto 4, 3) := by decide +kernel
theorem gL_areEntries_251 : zget (zMt mL_areEntries) 251 = some (.iconst 0, 1) := by decide +kernel
theorem gL_areEntries_252 : zget (zMt mL_areEntries) 252 = some (.iadd, 1) := by decide +kernel
theorem gL_areEntries_253 : zget (zMt mL_areEntries) 253 = some (.istore_n 2, 1) := by decide +kernel
theorem gL_areEntries_254 : zget (zMt mL_areEntries) 254 = some (.iload_n 3, 1) := by decide +kernel
theorem gL_areEntries_255 : zget (zMt mL_areEntries) 255 = some (.iload 9, 2) := by decide +kernel
theorem gL_areEntries_257 : zget (zMt mL_areEntries) 257 = some (.iadd, 1) := by decide +kernel
theorem gL_areEntries_258 : zget (zMt mL_areEntries) 258 = some (.istore_n 3, 1) := by decide +kernel
theorem gL_areEntries_259 : zget (zMt mL_areEntries) 259 = some (.iload 7, 2) := by decide +kernel
theorem gL_areEntries_261 : zget (zMt mL_areEntries) 261 = some (.bipush 110, 2) := by decide +kernel
theorem gL_areEntries_263 : zget (zMt mL_areEntries) 263 = some (.if_icmp .ne 12, 3) := by decide +kernel
theorem gL_areEntries_266 : zget (zMt mL_areEntries) 266 = some (.aload 5, 2) := by decide +kernel
theorem gL_areEntries_268 : zget (zMt mL_areEntries) 268 = some (.iload 8, 2) := by decide +kernel
theorem gL_areEntries_270 : zget (zMt mL_areEntries) 270 = some (.dup2, 1) := by decide +kernel
theorem gL_areEntries_271 : zget (zMt mL_areEntries) 271 = some (.iaload, 1) := by decide +kernel
theorem gL_areEntries_272 : zget (zMt mL_areEntries) 272 = some (.iconst 1, 1) := by decide +kernel
theorem gL_areEntries_273 : zget (zMt mL_areEntries) 273 = some (.iadd, 1) := by decide +kernel
theorem gL_areEntries_274 : zget (zMt mL_areEntries) 274 = some (.iastore, 1) := by decide +kernel
theorem gL_areEntries_275 : zget (zMt mL_areEntries) 275 = some (.iinc 6 1, 3) := by decide +kernel
theorem gL_areEntries_278 : zget (zMt mL_areEntries) 278 = some (.goto (-206), 3) := by decide +kernel
theorem gL_areEntries_281 : zget (zMt mL_areEntries) 281 = some (.iconst (-1), 1) := by decide +kernel
theorem gL_areEntries_282 : zget (zMt mL_areEntries) 282 = some (.istore 6, 2) := by decide +kernel
theorem gL_areEntries_284 : zget (zMt mL_areEntries) 284 = some (.bipush 99, 2) := by decide +kernel
theorem gL_areEntries_286 : zget (zMt mL_areEntries) 286 = some (.istore 7, 2) := by decide +kernel
theorem gL_areEntries_288 : zget (zMt mL_areEntries) 288 = some (.iload 7, 2) := by decide +kernel
theorem gL_areEntries_290 : zget (zMt mL_areEntries) 290 = some (.ifCond .lt 71, 3) := by decide +kernel
theorem gL_areEntries_293 : zget (zMt mL_areEntries) 293 = some (.iload 4, 2) := by decide +kernel
theorem gL_areEntries_295 : zget (zMt mL_areEntries) 295 = some (.ifCond .eq 66, 3) := by decide +kernel
theorem gL_areEntries_298 : zget (zMt mL_areEntries) 298 = some (.aload_n 0, 1) := by decide +kernel
theorem gL_areEntries_299 : zget (zMt mL_areEntries) 299 = some (.iconst 4, 1) := by decide +kernel
theorem gL_areEntries_300 : zget (zMt mL_areEntries) 300 = some (.iload 7, 2) := by decide +kernel
theorem gL_areEntries_302 : zget (zMt mL_areEntries) 302 = some (.invokestatic 138, 3) := by decide +kernel
theorem gL_areEntries_305 : zget (zMt mL_areEntries) 305 = some (.aload 5, 2) := by decide +kernel
theorem gL_areEntries_307 : zget (zMt mL_areEntries) 307 = some (.iload 7, 2) := by decide +kernel
theorem gL_areEntries_309 : zget (zMt mL_areEntries) 309 = some (.iaload, 1) := by decide +kernel
theorem gL_areEntries_310 : zget (zMt mL_areEntries) 310 = some (.if_icmp .ne 7, 3) := by decide +kernel
theorem gL_areEntries_313 : zget (zMt mL_areEntries) 313 = some (.iconst 1, 1) := by decide +kernel
theorem gL_areEntries_314 : zget (zMt mL_areEntries) 314 = some (.goto 4, 3) := by decide +kernel
theorem gL_areEntries_317 : zget (zMt mL_areEntries) 317 = some (.iconst 0, 1) := by decide +kernel
theorem gL_areEntries_318 : zget (zMt mL_areEntries) 318 = some (.istore 4, 2) := by decide +kernel
theorem gL_areEntries_320 : zget (zMt mL_areEntries) 320 = some (.aload 5, 2) := by decide +kernel
theorem gL_areEntries_322 : zget (zMt mL_areEntries) 322 = some (.iload 7, 2) := by decide +kernel
theorem gL_areEntries_324 : zget (zMt mL_areEntries) 324 = some (.iaload, 1) := by decide +kernel
theorem gL_areEntries_325 : zget (zMt mL_areEntries) 325 = some (.ifCond .le 26, 3) := by decide +kernel
theorem gL_areEntries_328 : zget (zMt mL_areEntries) 328 = some (.iload 6, 2) := by decide +kernel
theorem gL_areEntries_330 : zget (zMt mL_areEntries) 330 = some (.ifCond .lt 16, 3) := by decide +kernel
theorem gL_areEntries_333 : zget (zMt mL_areEntries) 333 = some (.aload 5, 2) := by decide +kernel
theorem gL_areEntries_335 : zget (zMt mL_areEntries) 335 = some (.iload 7, 2) := by decide +kernel
theorem gL_areEntries_337 : zget (zMt mL_areEntries) 337 = some (.iaload, 1) := by decide +kernel
theorem gL_areEntries_338 : zget (zMt mL_areEntries) 338 = some (.aload 5, 2) := by decide +kernel
theorem gL_areEntries_340 : zget (zMt mL_areEntries) 340 = some (.iload 6, 2) := by decide +kernel
theorem gL_areEntries_342 : zget (zMt mL_areEntries) 342 = some (.iaload, 1) := by decide +kernel
theorem gL_areEntries_343 : zget (zMt mL_areEntries) 343 = some (.if_icmp .lt 8, 3) := by decide +kernel
theorem gL_areEntries_346 : zget (zMt mL_areEntries) 346 = some (.iload 7, 2) := by decide +kernel
theorem gL_areEntries_348 : zget (zMt mL_areEntries) 348 = some (.goto 5, 3) := by decide +kernel
theorem gL_areEntries_351 : zget (zMt mL_areEntries) 351 = some (.iload 6, 2) := by decide +kernel
theorem gL_areEntries_353 : zget (zMt mL_areEntries) 353 = some (.istore 6, 2) := by decide +kernel
theorem gL_areEntries_355 : zget (zMt mL_areEntries) 355 = some (.iinc 7 (-1), 3) := by decide +kernel
theorem gL_areEntries_358 : zget (zMt mL_areEntries) 358 = some (.goto (-70), 3) := by decide +kernel
theorem gL_areEntries_361 : zget (zMt mL_areEntries) 361 = some (.iload 4, 2) := by decide +kernel
theorem gL_areEntries_363 : zget (zMt mL_areEntries) 363 = some (.ifCond .eq 46, 3) := by decide +kernel
theorem gL_areEntries_366 : zget (zMt mL_areEntries) 366 = some (.aload_n 0, 1) := by decide +kernel
theorem gL_areEntries_367 : zget (zMt mL_areEntries) 367 = some (.iconst 5, 1) := by decide +kernel
theorem gL_areEntries_368 : zget (zMt mL_areEntries) 368 = some (.iconst 0, 1) := by decide +kernel
theorem gL_areEntries_369 : zget (zMt mL_areEntries) 369 = some (.invokestatic 138, 3) := by decide +kernel
theorem gL_areEntries_372 : zget (zMt mL_areEntries) 372 = some (.iload 6, 2) := by decide +kernel
theorem gL_areEntries_374 : zget (zMt mL_areEntries) 374 = some (.ifCond .ge 9, 3) := by decide +kernel
theorem gL_areEntries_377 : zget (zMt mL_areEntries) 377 = some (.sipush (-2005), 3) := by decide +kernel
theorem gL_areEntries_380 : zget (zMt mL_areEntries) 380 = some (.goto 5, 3) := by decide +kernel
theorem gL_areEntries_383 : zget (zMt mL_areEntries) 383 = some (.iload 6, 2) := by decide +kernel
theorem gL_areEntries_385 : zget (zMt mL_areEntries) 385 = some (.if_icmp .ne 24, 3) := by decide +kernel
theorem gL_areEntries_388 : zget (zMt mL_areEntries) 388 = some (.iload_n 1, 1) := by decide +kernel
theorem gL_areEntries_389 : zget (zMt mL_areEntries) 389 = some (.ifCond .eq 16, 3) := by decide +kernel
theorem gL_areEntries_392 : zget (zMt mL_areEntries) 392 = some (.aload_n 0, 1) := by decide +kernel
theorem gL_areEntries_393 : zget (zMt mL_areEntries) 393 = some (.invokevirtual 141, 3) := by decide +kernel
theorem gL_areEntries_396 : zget (zMt mL_areEntries) 396 = some (.iload_n 3, 1) := by decide +kernel
theorem gL_areEntries_397 : zget (zMt mL_areEntries) 397 = some (.i2d, 1) := by decide +kernel
theorem gL_areEntries_398 : zget (zMt mL_areEntries) 398 = some (.iload_n 1, 1) := by decide +kernel
theorem gL_areEntries_399 : zget (zMt mL_areEntries) 399 = some (.i2d, 1) := by decide +kernel
theorem gL_areEntries_400 : zget (zMt mL_areEntries) 400 = some (.ddiv, 1) := by decide +kernel
theorem gL_areEntries_401 : zget (zMt mL_areEntries) 401 = some (.dcmp .l, 1) := by decide +kernel
theorem gL_areEntries_402 : zget (zMt mL_areEntries) 402 = some (.ifCond .ne 7, 3) := by decide +kernel
theorem gL_areEntries_405 : zget (zMt mL_areEntries) 405 = some (.iconst 1, 1) := by decide +kernel
theorem gL_areEntries_406 : zget (zMt mL_areEntries) 406 = some (.goto 4, 3) := by decide +kernel
theorem gL_areEntries_409 : zget (zMt mL_areEntries) 409 = some (.iconst 0, 1) := by decide +kernel
theorem gL_areEntries_410 : zget (zMt mL_areEntries) 410 = some (.ireturn, 1) := by decide +kernel
theorem gL_areFindings_0 : zget (zMt mL_areFindings) 0 = some (.aload_n 0, 1) := rfl
theorem gL_areFindings_1 : zget (zMt mL_areFindings) 1 = some (.invokevirtual 145, 3) := rfl
theorem gL_areFindings_4 : zget (zMt mL_areFindings) 4 = some (.istore_n 1, 1) := rfl
theorem gL_areFindings_5 : zget (zMt mL_areFindings) 5 = some (.iconst 0, 1) := rfl
theorem gL_areFindings_6 : zget (zMt mL_areFindings) 6 = some (.istore_n 2, 1) := rfl
theorem gL_areFindings_7 : zget (zMt mL_areFindings) 7 = some (.iconst 0, 1) := rfl
theorem gL_areFindings_8 : zget (zMt mL_areFindings) 8 = some (.istore_n 3, 1) := rfl
theorem gL_areFindings_9 : zget (zMt mL_areFindings) 9 = some (.iconst 0, 1) := rfl
theorem gL_areFindings_10 : zget (zMt mL_areFindings) 10 = some (.istore 4, 2) := rfl
theorem gL_areFindings_12 : zget (zMt mL_areFindings) 12 = some (.aload_n 0, 1) := rfl
theorem gL_areFindings_13 : zget (zMt mL_areFindings) 13 = some (.bipush 7, 2) := rfl
theorem gL_areFindings_15 : zget (zMt mL_areFindings) 15 = some (.iload_n 1, 1) := rfl
theorem gL_areFindings_16 : zget (zMt mL_areFindings) 16 = some (.invokestatic 138, 3) := rfl
theorem gL_areFindings_19 : zget (zMt mL_areFindings) 19 = some (.sipush (-2005), 3) := rfl
theorem gL_areFindings_22 : zget (zMt mL_areFindings) 22 = some (.if_icmp .ne 20, 3) := rfl
theorem gL_areFindings_25 : zget (zMt mL_areFindings) 25 = some (.aload_n 0, 1) := rfl
theorem gL_areFindings_26 : zget (zMt mL_areFindings) 26 = some (.bipush 12, 2) := rfl
theorem gL_areFindings_28 : zget (zMt mL_areFindings) 28 = some (.iconst (-1), 1) := rfl
theorem gL_areFindings_29 : zget (zMt mL_areFindings) 29 = some (.invokestatic 138, 3) := rfl
theorem gL_areFindings_32 : zget (zMt mL_areFindings) 32 = some (.sipush (-2005), 3) := rfl
theorem gL_areFindings_35 : zget (zMt mL_areFindings) 35 = some (.if_icmp .ne 7, 3) := rfl
theorem gL_areFindings_38 : zget (zMt mL_areFindings) 38 = some (.iconst 1, 1) := rfl
theorem gL_areFindings_39 : zget (zMt mL_areFindings) 39 = some (.goto 4, 3) := rfl
theorem gL_areFindings_42 : zget (zMt mL_areFindings) 42 = some (.iconst 0, 1) := rfl
theorem gL_areFindings_43 : zget (zMt mL_areFindings) 43 = some (.istore 5, 2) := rfl
theorem gL_areFindings_45 : zget (zMt mL_areFindings) 45 = some (.iconst 0, 1) := rfl
theorem gL_areFindings_46 : zget (zMt mL_areFindings) 46 = some (.istore 6, 2) := rfl
theorem gL_areFindings_48 : zget (zMt mL_areFindings) 48 = some (.iload 6, 2) := rfl
theorem gL_areFindings_50 : zget (zMt mL_areFindings) 50 = some (.iload_n 1, 1) := rfl
theorem gL_areFindings_51 : zget (zMt mL_areFindings) 51 = some (.if_icmp .ge 300, 3) := rfl
theorem gL_areFindings_54 : zget (zMt mL_areFindings) 54 = some (.iload 5, 2) := rfl
theorem gL_areFindings_56 : zget (zMt mL_areFindings) 56 = some (.ifCond .eq 295, 3) := rfl
theorem gL_areFindings_59 : zget (zMt mL_areFindings) 59 = some (.aload_n 0, 1) := rfl
theorem gL_areFindings_60 : zget (zMt mL_areFindings) 60 = some (.bipush 7, 2) := rfl
theorem gL_areFindings_62 : zget (zMt mL_areFindings) 62 = some (.iload 6, 2) := rfl
theorem gL_areFindings_64 : zget (zMt mL_areFindings) 64 = some (.invokestatic 138, 3) := rfl
theorem gL_areFindings_67 : zget (zMt mL_areFindings) 67 = some (.istore 7, 2) := rfl
theorem gL_areFindings_69 : zget (zMt mL_areFindings) 69 = some (.aload_n 0, 1) := rfl
theorem gL_areFindings_70 : zget (zMt mL_areFindings) 70 = some (.bipush 8, 2) := rfl
theorem gL_areFindings_72 : zget (zMt mL_areFindings) 72 = some (.iload 6, 2) := rfl
theorem gL_areFindings_74 : zget (zMt mL_areFindings) 74 = some (.invokestatic 138, 3) := rfl
theorem gL_areFindings_77 : zget (zMt mL_areFindings) 77 = some (.istore 8, 2) := rfl
theorem gL_areFindings_79 : zget (zMt mL_areFindings) 79 = some (.aload_n 0, 1) := rfl
theorem gL_areFindings_80 : zget (zMt mL_areFindings) 80 = some (.bipush 9, 2) := rfl
theorem gL_areFindings_82 : zget (zMt mL_areFindings) 82 = some (.iload 6, 2) := rfl
theorem gL_areFindings_84 : zget (zMt mL_areFindings) 84 = some (.invokestatic 138, 3) := rfl
theorem gL_areFindings_87 : zget (zMt mL_areFindings) 87 = some (.istore 9, 2) := rfl
theorem gL_areFindings_89 : zget (zMt mL_areFindings) 89 = some (.sipush 1000, 3) := rfl
theorem gL_areFindings_92 : zget (zMt mL_areFindings) 92 = some (.iload 8, 2) := rfl
theorem gL_areFindings_94 : zget (zMt mL_areFindings) 94 = some (.imul, 1) := rfl
theorem gL_areFindings_95 : zget (zMt mL_areFindings) 95 = some (.bipush 10, 2) := rfl
theorem gL_areFindings_97 : zget (zMt mL_areFindings) 97 = some (.iload 9, 2) := rfl
theorem gL_areFindings_99 : zget (zMt mL_areFindings) 99 = some (.imul, 1) := rfl
theorem gL_areFindings_100 : zget (zMt mL_areFindings) 100 = some (.iadd, 1) := rfl
theorem gL_areFindings_101 : zget (zMt mL_areFindings) 101 = some (.iload 7, 2) := rfl
theorem gL_areFindings_103 : zget (zMt mL_areFindings) 103 = some (.iadd, 1) := rfl
theorem gL_areFindings_104 : zget (zMt mL_areFindings) 104 = some (.istore 10, 2) := rfl
theorem gL_areFindings_106 : zget (zMt mL_areFindings) 106 = some (.iload 6, 2) := rfl
theorem gL_areFindings_108 : zget (zMt mL_areFindings) 108 = some (.ifCond .ne 7, 3) := rfl
theorem gL_areFindings_111 : zget (zMt mL_areFindings) 111 = some (.iconst (-1), 1) := rfl
theorem gL_areFindings_112 : zget (zMt mL_areFindings) 112 = some (.goto 42, 3) := rfl
theorem gL_areFindings_115 : zget (zMt mL_areFindings) 115 = some (.sipush 1000, 3) := rfl
theorem gL_areFindings_118 : zget (zMt mL_areFindings) 118 = some (.aload_n 0, 1) := rfl
theorem gL_areFindings_119 : zget (zMt mL_areFindings) 119 = some (.bipush 8, 2) := rfl
theorem gL_areFindings_121 : zget (zMt mL_areFindings) 121 = some (.iload 6, 2) := rfl
theorem gL_areFindings_123 : zget (zMt mL_areFindings) 123 = some (.iconst 1, 1) := rfl
theorem gL_areFindings_124 : zget (zMt mL_areFindings) 124 = some (.isub, 1) := rfl
theorem gL_areFindings_125 : zget (zMt mL_areFindings) 125 = some (.invokestatic 138, 3) := rfl
theorem gL_areFindings_128 : zget (zMt mL_areFindings) 128 = some (.imul, 1) := rfl
theorem gL_areFindings_129 : zget (zMt mL_areFindings) 129 = some (.bipush 10, 2) := rfl
theorem gL_areFindings_131 : zget (zMt mL_areFindings) 131 = some (.aload_n 0, 1) := rfl
theorem gL_areFindings_132 : zget (zMt mL_areFindings) 132 = some (.bipush 9, 2) := rfl
theorem gL_areFindings_134 : zget (zMt mL_areFindings) 134 = some (.iload 6, 2) := rfl
theorem gL_areFindings_136 : zget (zMt mL_areFindings) 136 = some (.iconst 1, 1) := rfl
theorem gL_areFindings_137 : zget (zMt mL_areFindings) 137 = some (.isub, 1) := rfl
theorem gL_areFindings_138 : zget (zMt mL_areFindings) 138 = some (.invokestatic 138, 3) := rfl
theorem gL_areFindings_141 : zget (zMt mL_areFindings) 141 = some (.imul, 1) := rfl
theorem gL_areFindings_142 : zget (zMt mL_areFindings) 142 = some (.iadd, 1) := rfl
theorem gL_areFindings_143 : zget (zMt mL_areFindings) 143 = some (.aload_n 0, 1) := rfl
theorem gL_areFindings_144 : zget (zMt mL_areFindings) 144 = some (.bipush 7, 2) := rfl
theorem gL_areFindings_146 : zget (zMt mL_areFindings) 146 = some (.iload 6, 2) := rfl
theorem gL_areFindings_148 : zget (zMt mL_areFindings) 148 = some (.iconst 1, 1) := rfl
theorem gL_areFindings_149 : zget (zMt mL_areFindings) 149 = some (.isub, 1) := rfl
theorem gL_areFindings_150 : zget (zMt mL_areFindings) 150 = some (.invokestatic 138, 3) := rfl
theorem gL_areFindings_153 : zget (zMt mL_areFindings) 153 = some (.iadd, 1) := rfl
theorem gL_areFindings_154 : zget (zMt mL_areFindings) 154 = some (.istore 11, 2) := rfl
theorem gL_areFindings_156 : zget (zMt mL_areFindings) 156 = some (.iconst 0, 1) := rfl
theorem gL_areFindings_157 : zget (zMt mL_areFindings) 157 = some (.istore 12, 2) := rfl
theorem gL_areFindings_159 : zget (zMt mL_areFindings) 159 = some (.iload 8, 2) := rfl
theorem gL_areFindings_161 : zget (zMt mL_areFindings) 161 = some (.istore 13, 2) := rfl
theorem gL_areFindings_163 : zget (zMt mL_areFindings) 163 = some (.iload 13, 2) := rfl
theorem gL_areFindings_165 : zget (zMt mL_areFindings) 165 = some (.iload 9, 2) := rfl
theorem gL_areFindings_167 : zget (zMt mL_areFindings) 167 = some (.if_icmp .gt 33, 3) := rfl
theorem gL_areFindings_170 : zget (zMt mL_areFindings) 170 = some (.iload 12, 2) := rfl
theorem gL_areFindings_172 : zget (zMt mL_areFindings) 172 = some (.ifCond .ne 15, 3) := rfl
theorem gL_areFindings_175 : zget (zMt mL_areFindings) 175 = some (.aload_n 0, 1) := rfl
theorem gL_areFindings_176 : zget (zMt mL_areFindings) 176 = some (.bipush 6, 2) := rfl
theorem gL_areFindings_178 : zget (zMt mL_areFindings) 178 = some (.iload 13, 2) := rfl
theorem gL_areFindings_180 : zget (zMt mL_areFindings) 180 = some (.invokestatic 138, 3) := rfl
theorem gL_areFindings_183 : zget (zMt mL_areFindings) 183 = some (.iconst 1, 1) := rfl
theorem gL_areFindings_184 : zget (zMt mL_areFindings) 184 = some (.if_icmp .ne 7, 3) := by decide +kernel
theorem gL_areFindings_187 : zget (zMt mL_areFindings) 187 = some (.iconst 1, 1) := by decide +kernel
theorem gL_areFindings_188 : zget (zMt mL_areFindings) 188 = some (.goto 4, 3) := by decide +kernel
theorem gL_areFindings_191 : zget (zMt mL_areFindings) 191 = some (.iconst 0, 1) := by decide +kernel
theorem gL_areFindings_192 : zget (zMt mL_areFindings) 192 = some (.istore 12, 2) := by decide +kernel
theorem gL_areFindings_194 : zget (zMt mL_areFindings) 194 = some (.iinc 13 1, 3) := by decide +kernel
theorem gL_areFindings_197 : zget (zMt mL_areFindings) 197 = some (.goto (-34), 3) := by decide +kernel
theorem gL_areFindings_200 : zget (zMt mL_areFindings) 200 = some (.aload_n 0, 1) := by decide +kernel
theorem gL_areFindings_201 : zget (zMt mL_areFindings) 201 = some (.bipush 10, 2) := by decide +kernel
theorem gL_areFindings_203 : zget (zMt mL_areFindings) 203 = some (.iload 6, 2) := by decide +kernel
theorem gL_areFindings_205 : zget (zMt mL_areFindings) 205 = some (.invokestatic 138, 3) := by decide +kernel
theorem gL_areFindings_208 : zget (zMt mL_areFindings) 208 = some (.istore 13, 2) := by decide +kernel
theorem gL_areFindings_210 : zget (zMt mL_areFindings) 210 = some (.iload 4, 2) := by decide +kernel
theorem gL_areFindings_212 : zget (zMt mL_areFindings) 212 = some (.iload 13, 2) := by decide +kernel
theorem gL_areFindings_214 : zget (zMt mL_areFindings) 214 = some (.iadd, 1) := by decide +kernel
theorem gL_areFindings_215 : zget (zMt mL_areFindings) 215 = some (.istore 4, 2) := by decide +kernel
theorem gL_areFindings_217 : zget (zMt mL_areFindings) 217 = some (.iload 10, 2) := by decide +kernel
theorem gL_areFindings_219 : zget (zMt mL_areFindings) 219 = some (.iload 11, 2) := by decide +kernel
theorem gL_areFindings_221 : zget (zMt mL_areFindings) 221 = some (.if_icmp .le 69, 3) := by decide +kernel
theorem gL_areFindings_224 : zget (zMt mL_areFindings) 224 = some (.iload 8, 2) := by decide +kernel
theorem gL_areFindings_226 : zget (zMt mL_areFindings) 226 = some (.ifCond .lt 64, 3) := by decide +kernel
theorem gL_areFindings_229 : zget (zMt mL_areFindings) 229 = some (.iload 9, 2) := by decide +kernel
theorem gL_areFindings_231 : zget (zMt mL_areFindings) 231 = some (.aload_n 0, 1) := by decide +kernel
theorem gL_areFindings_232 : zget (zMt mL_areFindings) 232 = some (.invokevirtual 135, 3) := by decide +kernel
theorem gL_areFindings_235 : zget (zMt mL_areFindings) 235 = some (.if_icmp .ge 55, 3) := by decide +kernel
theorem gL_areFindings_238 : zget (zMt mL_areFindings) 238 = some (.iload 9, 2) := by decide +kernel
theorem gL_areFindings_240 : zget (zMt mL_areFindings) 240 = some (.iload 8, 2) := by decide +kernel
theorem gL_areFindings_242 : zget (zMt mL_areFindings) 242 = some (.iload 7, 2) := by decide +kernel
theorem gL_areFindings_244 : zget (zMt mL_areFindings) 244 = some (.iconst 4, 1) := by decide +kernel
theorem gL_areFindings_245 : zget (zMt mL_areFindings) 245 = some (.if_icmp .ne 7, 3) := by decide +kernel
theorem gL_areFindings_248 : zget (zMt mL_areFindings) 248 = some (.iconst 2, 1) := by decide +kernel
theorem gL_areFindings_249 : zget (zMt mL_areFindings) 249 = some (.goto 4, 3) := by decide +kernel
theorem gL_areFindings_252 : zget (zMt mL_areFindings) 252 = some (.iconst 1, 1) := by decide +kernel
theorem gL_areFindings_253 : zget (zMt mL_areFindings) 253 = some (.iadd, 1) := by decide +kernel
theorem gL_areFindings_254 : zget (zMt mL_areFindings) 254 = some (.if_icmp .ne 36, 3) := by decide +kernel
theorem gL_areFindings_257 : zget (zMt mL_areFindings) 257 = some (.iload 13, 2) := by decide +kernel
theorem gL_areFindings_259 : zget (zMt mL_areFindings) 259 = some (.iload 12, 2) := by decide +kernel
theorem gL_areFindings_261 : zget (zMt mL_areFindings) 261 = some (.ifCond .ne 18, 3) := by decide +kernel
theorem gL_areFindings_264 : zget (zMt mL_areFindings) 264 = some (.aload_n 0, 1) := by decide +kernel
theorem gL_areFindings_265 : zget (zMt mL_areFindings) 265 = some (.bipush 13, 2) := by decide +kernel
theorem gL_areFindings_267 : zget (zMt mL_areFindings) 267 = some (.iload 7, 2) := by decide +kernel
theorem gL_areFindings_269 : zget (zMt mL_areFindings) 269 = some (.invokestatic 138, 3) := by decide +kernel
theorem gL_areFindings_272 : zget (zMt mL_areFindings) 272 = some (.ifCond .le 7, 3) := by decide +kernel
theorem gL_areFindings_275 : zget (zMt mL_areFindings) 275 = some (.iconst 1, 1) := by decide +kernel
theorem gL_areFindings_276 : zget (zMt mL_areFindings) 276 = some (.goto 4, 3) := by decide +kernel
theorem gL_areFindings_279 : zget (zMt mL_areFindings) 279 = some (.iconst 0, 1) := by decide +kernel
theorem gL_areFindings_280 : zget (zMt mL_areFindings) 280 = some (.invokestatic 94, 3) := by decide +kernel
theorem gL_areFindings_283 : zget (zMt mL_areFindings) 283 = some (.if_icmp .ne 7, 3) := by decide +kernel
theorem gL_areFindings_286 : zget (zMt mL_areFindings) 286 = some (.iconst 1, 1) := by decide +kernel
theorem gL_areFindings_287 : zget (zMt mL_areFindings) 287 = some (.goto 4, 3) := by decide +kernel
theorem gL_areFindings_290 : zget (zMt mL_areFindings) 290 = some (.iconst 0, 1) := by decide +kernel
theorem gL_areFindings_291 : zget (zMt mL_areFindings) 291 = some (.istore 5, 2) := by decide +kernel
theorem gL_areFindings_293 : zget (zMt mL_areFindings) 293 = some (.aload_n 0, 1) := by decide +kernel
theorem gL_areFindings_294 : zget (zMt mL_areFindings) 294 = some (.bipush 12, 2) := by decide +kernel
theorem gL_areFindings_296 : zget (zMt mL_areFindings) 296 = some (.iload 6, 2) := by decide +kernel
theorem gL_areFindings_298 : zget (zMt mL_areFindings) 298 = some (.invokestatic 138, 3) := by decide +kernel
theorem gL_areFindings_301 : zget (zMt mL_areFindings) 301 = some (.iconst 1, 1) := by decide +kernel
theorem gL_areFindings_302 : zget (zMt mL_areFindings) 302 = some (.if_icmp .ne 43, 3) := by decide +kernel
theorem gL_areFindings_305 : zget (zMt mL_areFindings) 305 = some (.iload 5, 2) := by decide +kernel
theorem gL_areFindings_307 : zget (zMt mL_areFindings) 307 = some (.ifCond .eq 19, 3) := by decide +kernel
theorem gL_areFindings_310 : zget (zMt mL_areFindings) 310 = some (.iload 13, 2) := by decide +kernel
theorem gL_areFindings_312 : zget (zMt mL_areFindings) 312 = some (.iconst 1, 1) := by decide +kernel
theorem gL_areFindings_313 : zget (zMt mL_areFindings) 313 = some (.if_icmp .ne 13, 3) := by decide +kernel
theorem gL_areFindings_316 : zget (zMt mL_areFindings) 316 = some (.iload 8, 2) := by decide +kernel
theorem gL_areFindings_318 : zget (zMt mL_areFindings) 318 = some (.iload_n 3, 1) := by decide +kernel
theorem gL_areFindings_319 : zget (zMt mL_areFindings) 319 = some (.if_icmp .lt 7, 3) := by decide +kernel
theorem gL_areFindings_322 : zget (zMt mL_areFindings) 322 = some (.iconst 1, 1) := by decide +kernel
theorem gL_areFindings_323 : zget (zMt mL_areFindings) 323 = some (.goto 4, 3) := by decide +kernel
theorem gL_areFindings_326 : zget (zMt mL_areFindings) 326 = some (.iconst 0, 1) := by decide +kernel
theorem gL_areFindings_327 : zget (zMt mL_areFindings) 327 = some (.istore 5, 2) := by decide +kernel
theorem gL_areFindings_329 : zget (zMt mL_areFindings) 329 = some (.iload_n 2, 1) := by decide +kernel
theorem gL_areFindings_330 : zget (zMt mL_areFindings) 330 = some (.aload_n 0, 1) := by decide +kernel
theorem gL_areFindings_331 : zget (zMt mL_areFindings) 331 = some (.bipush 13, 2) := by decide +kernel
theorem gL_areFindings_333 : zget (zMt mL_areFindings) 333 = some (.iload 7, 2) := by decide +kernel
theorem gL_areFindings_335 : zget (zMt mL_areFindings) 335 = some (.invokestatic 138, 3) := by decide +kernel
theorem gL_areFindings_338 : zget (zMt mL_areFindings) 338 = some (.iadd, 1) := by decide +kernel
theorem gL_areFindings_339 : zget (zMt mL_areFindings) 339 = some (.istore_n 2, 1) := by decide +kernel
theorem gL_areFindings_340 : zget (zMt mL_areFindings) 340 = some (.iload 9, 2) := by decide +kernel
theorem gL_areFindings_342 : zget (zMt mL_areFindings) 342 = some (.iconst 1, 1) := by decide +kernel
theorem gL_areFindings_343 : zget (zMt mL_areFindings) 343 = some (.iadd, 1) := by decide +kernel
theorem gL_areFindings_344 : zget (zMt mL_areFindings) 344 = some (.istore_n 3, 1) := by decide +kernel
theorem gL_areFindings_345 : zget (zMt mL_areFindings) 345 = some (.iinc 6 1, 3) := by decide +kernel
theorem gL_areFindings_348 : zget (zMt mL_areFindings) 348 = some (.goto (-300), 3) := by decide +kernel
theorem gL_areFindings_351 : zget (zMt mL_areFindings) 351 = some (.iload 5, 2) := by decide +kernel
theorem gL_areFindings_353 : zget (zMt mL_areFindings) 353 = some (.ifCond .eq 39, 3) := by decide +kernel
theorem gL_areFindings_356 : zget (zMt mL_areFindings) 356 = some (.iload_n 2, 1) := by decide +kernel
theorem gL_areFindings_357 : zget (zMt mL_areFindings) 357 = some (.aload_n 0, 1) := by decide +kernel
theorem gL_areFindings_358 : zget (zMt mL_areFindings) 358 = some (.invokevirtual 148, 3) := by decide +kernel
theorem gL_areFindings_361 : zget (zMt mL_areFindings) 361 = some (.if_icmp .ne 31, 3) := by decide +kernel
theorem gL_areFindings_364 : zget (zMt mL_areFindings) 364 = some (.aload_n 0, 1) := by decide +kernel
theorem gL_areFindings_365 : zget (zMt mL_areFindings) 365 = some (.bipush 11, 2) := by decide +kernel
theorem gL_areFindings_367 : zget (zMt mL_areFindings) 367 = some (.iconst 0, 1) := by decide +kernel
theorem gL_areFindings_368 : zget (zMt mL_areFindings) 368 = some (.invokestatic 138, 3) := by decide +kernel
theorem gL_areFindings_371 : zget (zMt mL_areFindings) 371 = some (.iload 4, 2) := by decide +kernel
theorem gL_areFindings_373 : zget (zMt mL_areFindings) 373 = some (.bipush 12, 2) := by decide +kernel
theorem gL_areFindings_375 : zget (zMt mL_areFindings) 375 = some (.if_icmp .le 9, 3) := by decide +kernel
theorem gL_areFindings_378 : zget (zMt mL_areFindings) 378 = some (.sipush (-2004), 3) := by decide +kernel
theorem gL_areFindings_381 : zget (zMt mL_areFindings) 381 = some (.goto 4, 3) := by decide +kernel
theorem gL_areFindings_384 : zget (zMt mL_areFindings) 384 = some (.iload_n 2, 1) := by decide +kernel
theorem gL_areFindings_385 : zget (zMt mL_areFindings) 385 = some (.if_icmp .ne 7, 3) := by decide +kernel
theorem gL_areFindings_388 : zget (zMt mL_areFindings) 388 = some (.iconst 1, 1) := by decide +kernel
theorem gL_areFindings_389 : zget (zMt mL_areFindings) 389 = some (.goto 4, 3) := by decide +kernel
theorem gL_areFindings_392 : zget (zMt mL_areFindings) 392 = some (.iconst 0, 1) := by decide +kernel
theorem gL_areFindings_393 : zget (zMt mL_areFindings) 393 = some (.ireturn, 1) := by decide +kernel
theorem gL_areLines_0 : zget (zMt mL_areLines) 0 = some (.aload_n 0, 1) := rfl
theorem gL_areLines_1 : zget (zMt mL_areLines) 1 = some (.invokevirtual 135, 3) := rfl
theorem gL_areLines_4 : zget (zMt mL_areLines) 4 = some (.istore_n 2, 1) := rfl
theorem gL_areLines_5 : zget (zMt mL_areLines) 5 = some (.aload_n 0, 1) := rfl
theorem gL_areLines_6 : zget (zMt mL_areLines) 6 = some (.invokevirtual 151, 3) := rfl
theorem gL_areLines_9 : zget (zMt mL_areLines) 9 = some (.istore_n 3, 1) := rfl
theorem gL_areLines_10 : zget (zMt mL_areLines) 10 = some (.aload_n 0, 1) := rfl
theorem gL_areLines_11 : zget (zMt mL_areLines) 11 = some (.bipush 15, 2) := rfl
theorem gL_areLines_13 : zget (zMt mL_areLines) 13 = some (.iconst 0, 1) := rfl
theorem gL_areLines_14 : zget (zMt mL_areLines) 14 = some (.invokestatic 138, 3) := rfl
theorem gL_areLines_17 : zget (zMt mL_areLines) 17 = some (.iload_n 2, 1) := rfl
theorem gL_areLines_18 : zget (zMt mL_areLines) 18 = some (.bipush 12, 2) := rfl
theorem gL_areLines_20 : zget (zMt mL_areLines) 20 = some (.if_icmp .le 9, 3) := rfl
theorem gL_areLines_23 : zget (zMt mL_areLines) 23 = some (.sipush (-2004), 3) := rfl
theorem gL_areLines_26 : zget (zMt mL_areLines) 26 = some (.goto 4, 3) := rfl
theorem gL_areLines_29 : zget (zMt mL_areLines) 29 = some (.iload_n 3, 1) := rfl
theorem gL_areLines_30 : zget (zMt mL_areLines) 30 = some (.if_icmp .ne 11, 3) := rfl
theorem gL_areLines_33 : zget (zMt mL_areLines) 33 = some (.iload_n 3, 1) := rfl
theorem gL_areLines_34 : zget (zMt mL_areLines) 34 = some (.ifCond .lt 7, 3) := rfl
theorem gL_areLines_37 : zget (zMt mL_areLines) 37 = some (.iconst 1, 1) := rfl
theorem gL_areLines_38 : zget (zMt mL_areLines) 38 = some (.goto 4, 3) := rfl
theorem gL_areLines_41 : zget (zMt mL_areLines) 41 = some (.iconst 0, 1) := rfl
theorem gL_areLines_42 : zget (zMt mL_areLines) 42 = some (.istore 4, 2) := rfl
theorem gL_areLines_44 : zget (zMt mL_areLines) 44 = some (.aload_n 0, 1) := rfl
theorem gL_areLines_45 : zget (zMt mL_areLines) 45 = some (.invokevirtual 154, 3) := rfl
theorem gL_areLines_48 : zget (zMt mL_areLines) 48 = some (.ifCond .ne 50, 3) := rfl
theorem gL_areLines_51 : zget (zMt mL_areLines) 51 = some (.iload 4, 2) := rfl
theorem gL_areLines_53 : zget (zMt mL_areLines) 53 = some (.ifCond .eq 43, 3) := rfl
theorem gL_areLines_56 : zget (zMt mL_areLines) 56 = some (.aload_n 0, 1) := rfl
theorem gL_areLines_57 : zget (zMt mL_areLines) 57 = some (.bipush 16, 2) := rfl
theorem gL_areLines_59 : zget (zMt mL_areLines) 59 = some (.iconst 0, 1) := rfl
theorem gL_areLines_60 : zget (zMt mL_areLines) 60 = some (.invokestatic 138, 3) := rfl
theorem gL_areLines_63 : zget (zMt mL_areLines) 63 = some (.iload_n 2, 1) := rfl
theorem gL_areLines_64 : zget (zMt mL_areLines) 64 = some (.ifCond .ne 9, 3) := rfl
theorem gL_areLines_67 : zget (zMt mL_areLines) 67 = some (.sipush (-2001), 3) := rfl
theorem gL_areLines_70 : zget (zMt mL_areLines) 70 = some (.goto 6, 3) := rfl
theorem gL_areLines_73 : zget (zMt mL_areLines) 73 = some (.sipush (-2003), 3) := rfl
theorem gL_areLines_76 : zget (zMt mL_areLines) 76 = some (.if_icmp .ne 20, 3) := rfl
theorem gL_areLines_79 : zget (zMt mL_areLines) 79 = some (.aload_n 0, 1) := rfl
theorem gL_areLines_80 : zget (zMt mL_areLines) 80 = some (.bipush 17, 2) := rfl
theorem gL_areLines_82 : zget (zMt mL_areLines) 82 = some (.iconst 0, 1) := rfl
theorem gL_areLines_83 : zget (zMt mL_areLines) 83 = some (.invokestatic 138, 3) := rfl
theorem gL_areLines_86 : zget (zMt mL_areLines) 86 = some (.sipush (-2003), 3) := rfl
theorem gL_areLines_89 : zget (zMt mL_areLines) 89 = some (.if_icmp .ne 7, 3) := rfl
theorem gL_areLines_92 : zget (zMt mL_areLines) 92 = some (.iconst 1, 1) := rfl
theorem gL_areLines_93 : zget (zMt mL_areLines) 93 = some (.goto 4, 3) := rfl
theorem gL_areLines_96 : zget (zMt mL_areLines) 96 = some (.iconst 0, 1) := rfl
theorem gL_areLines_97 : zget (zMt mL_areLines) 97 = some (.ireturn, 1) := rfl
theorem gL_areLines_98 : zget (zMt mL_areLines) 98 = some (.iconst 0, 1) := rfl
theorem gL_areLines_99 : zget (zMt mL_areLines) 99 = some (.istore 5, 2) := rfl
theorem gL_areLines_101 : zget (zMt mL_areLines) 101 = some (.iload_n 2, 1) := rfl
theorem gL_areLines_102 : zget (zMt mL_areLines) 102 = some (.ifCond .ne 7, 3) := rfl
theorem gL_areLines_105 : zget (zMt mL_areLines) 105 = some (.iconst 0, 1) := rfl
theorem gL_areLines_106 : zget (zMt mL_areLines) 106 = some (.goto 14, 3) := rfl
theorem gL_areLines_109 : zget (zMt mL_areLines) 109 = some (.aload_n 0, 1) := rfl
theorem gL_areLines_110 : zget (zMt mL_areLines) 110 = some (.bipush 16, 2) := rfl
theorem gL_areLines_112 : zget (zMt mL_areLines) 112 = some (.iload_n 2, 1) := rfl
theorem gL_areLines_113 : zget (zMt mL_areLines) 113 = some (.iconst 1, 1) := rfl
theorem gL_areLines_114 : zget (zMt mL_areLines) 114 = some (.isub, 1) := rfl
theorem gL_areLines_115 : zget (zMt mL_areLines) 115 = some (.invokestatic 138, 3) := rfl
theorem gL_areLines_118 : zget (zMt mL_areLines) 118 = some (.iconst 1, 1) := rfl
theorem gL_areLines_119 : zget (zMt mL_areLines) 119 = some (.iadd, 1) := rfl
theorem gL_areLines_120 : zget (zMt mL_areLines) 120 = some (.istore 6, 2) := rfl
theorem gL_areLines_122 : zget (zMt mL_areLines) 122 = some (.iconst 0, 1) := rfl
theorem gL_areLines_123 : zget (zMt mL_areLines) 123 = some (.istore 7, 2) := rfl
theorem gL_areLines_125 : zget (zMt mL_areLines) 125 = some (.iload 7, 2) := rfl
theorem gL_areLines_127 : zget (zMt mL_areLines) 127 = some (.iload_n 2, 1) := rfl
theorem gL_areLines_128 : zget (zMt mL_areLines) 128 = some (.if_icmp .ge 112, 3) := rfl
theorem gL_areLines_131 : zget (zMt mL_areLines) 131 = some (.iload 4, 2) := rfl
theorem gL_areLines_133 : zget (zMt mL_areLines) 133 = some (.ifCond .eq 107, 3) := rfl
theorem gL_areLines_136 : zget (zMt mL_areLines) 136 = some (.iload 7, 2) := rfl
theorem gL_areLines_138 : zget (zMt mL_areLines) 138 = some (.ifCond .ne 13, 3) := rfl
theorem gL_areLines_141 : zget (zMt mL_areLines) 141 = some (.aload_n 0, 1) := rfl
theorem gL_areLines_142 : zget (zMt mL_areLines) 142 = some (.bipush 16, 2) := rfl
theorem gL_areLines_144 : zget (zMt mL_areLines) 144 = some (.iconst 0, 1) := rfl
theorem gL_areLines_145 : zget (zMt mL_areLines) 145 = some (.invokestatic 138, 3) := rfl
theorem gL_areLines_148 : zget (zMt mL_areLines) 148 = some (.goto 22, 3) := rfl
theorem gL_areLines_151 : zget (zMt mL_areLines) 151 = some (.aload_n 0, 1) := rfl
theorem gL_areLines_152 : zget (zMt mL_areLines) 152 = some (.bipush 16, 2) := rfl
theorem gL_areLines_154 : zget (zMt mL_areLines) 154 = some (.iload 7, 2) := rfl
theorem gL_areLines_156 : zget (zMt mL_areLines) 156 = some (.invokestatic 138, 3) := rfl
theorem gL_areLines_159 : zget (zMt mL_areLines) 159 = some (.aload_n 0, 1) := rfl
theorem gL_areLines_160 : zget (zMt mL_areLines) 160 = some (.bipush 16, 2) := rfl
theorem gL_areLines_162 : zget (zMt mL_areLines) 162 = some (.iload 7, 2) := rfl
theorem gL_areLines_164 : zget (zMt mL_areLines) 164 = some (.iconst 1, 1) := rfl
theorem gL_areLines_165 : zget (zMt mL_areLines) 165 = some (.isub, 1) := rfl
theorem gL_areLines_166 : zget (zMt mL_areLines) 166 = some (.invokestatic 138, 3) := rfl
theorem gL_areLines_169 : zget (zMt mL_areLines) 169 = some (.isub, 1) := rfl
theorem gL_areLines_170 : zget (zMt mL_areLines) 170 = some (.istore 8, 2) := rfl
theorem gL_areLines_172 : zget (zMt mL_areLines) 172 = some (.iload 7, 2) := rfl
theorem gL_areLines_174 : zget (zMt mL_areLines) 174 = some (.ifCond .ne 16, 3) := rfl
theorem gL_areLines_177 : zget (zMt mL_areLines) 177 = some (.iload 8, 2) := rfl
theorem gL_areLines_179 : zget (zMt mL_areLines) 179 = some (.ifCond .ne 7, 3) := rfl
theorem gL_areLines_182 : zget (zMt mL_areLines) 182 = some (.iconst 1, 1) := rfl
theorem gL_areLines_183 : zget (zMt mL_areLines) 183 = some (.goto 49, 3) := rfl
theorem gL_areLines_186 : zget (zMt mL_areLines) 186 = some (.iconst 0, 1) := rfl
theorem gL_areLines_187 : zget (zMt mL_areLines) 187 = some (.goto 45, 3) := rfl
theorem gL_areLines_190 : zget (zMt mL_areLines) 190 = some (.iload 8, 2) := rfl
theorem gL_areLines_192 : zget (zMt mL_areLines) 192 = some (.ifCond .eq 35, 3) := rfl
theorem gL_areLines_195 : zget (zMt mL_areLines) 195 = some (.iload 8, 2) := rfl
theorem gL_areLines_197 : zget (zMt mL_areLines) 197 = some (.iconst 1, 1) := by decide +kernel
theorem gL_areLines_198 : zget (zMt mL_areLines) 198 = some (.if_icmp .ne 33, 3) := by decide +kernel
theorem gL_areLines_201 : zget (zMt mL_areLines) 201 = some (.aload_n 0, 1) := by decide +kernel
theorem gL_areLines_202 : zget (zMt mL_areLines) 202 = some (.bipush 6, 2) := by decide +kernel
theorem gL_areLines_204 : zget (zMt mL_areLines) 204 = some (.iload 7, 2) := by decide +kernel
theorem gL_areLines_206 : zget (zMt mL_areLines) 206 = some (.invokestatic 138, 3) := by decide +kernel
theorem gL_areLines_209 : zget (zMt mL_areLines) 209 = some (.iconst 1, 1) := by decide +kernel
theorem gL_areLines_210 : zget (zMt mL_areLines) 210 = some (.if_icmp .ne 17, 3) := by decide +kernel
theorem gL_areLines_213 : zget (zMt mL_areLines) 213 = some (.aload_n 0, 1) := by decide +kernel
theorem gL_areLines_214 : zget (zMt mL_areLines) 214 = some (.bipush 6, 2) := by decide +kernel
theorem gL_areLines_216 : zget (zMt mL_areLines) 216 = some (.iload 7, 2) := by decide +kernel
theorem gL_areLines_218 : zget (zMt mL_areLines) 218 = some (.iconst 1, 1) := by decide +kernel
theorem gL_areLines_219 : zget (zMt mL_areLines) 219 = some (.isub, 1) := by decide +kernel
theorem gL_areLines_220 : zget (zMt mL_areLines) 220 = some (.invokestatic 138, 3) := by decide +kernel
theorem gL_areLines_223 : zget (zMt mL_areLines) 223 = some (.iconst 1, 1) := by decide +kernel
theorem gL_areLines_224 : zget (zMt mL_areLines) 224 = some (.if_icmp .eq 7, 3) := by decide +kernel
theorem gL_areLines_227 : zget (zMt mL_areLines) 227 = some (.iconst 1, 1) := by decide +kernel
theorem gL_areLines_228 : zget (zMt mL_areLines) 228 = some (.goto 4, 3) := by decide +kernel
theorem gL_areLines_231 : zget (zMt mL_areLines) 231 = some (.iconst 0, 1) := by decide +kernel
theorem gL_areLines_232 : zget (zMt mL_areLines) 232 = some (.istore 4, 2) := by decide +kernel
theorem gL_areLines_234 : zget (zMt mL_areLines) 234 = some (.iinc 7 1, 3) := by decide +kernel
theorem gL_areLines_237 : zget (zMt mL_areLines) 237 = some (.goto (-112), 3) := by decide +kernel
theorem gL_areLines_240 : zget (zMt mL_areLines) 240 = some (.iconst 0, 1) := by decide +kernel
theorem gL_areLines_241 : zget (zMt mL_areLines) 241 = some (.istore 7, 2) := by decide +kernel
theorem gL_areLines_243 : zget (zMt mL_areLines) 243 = some (.iload 7, 2) := by decide +kernel
theorem gL_areLines_245 : zget (zMt mL_areLines) 245 = some (.iload 6, 2) := by decide +kernel
theorem gL_areLines_247 : zget (zMt mL_areLines) 247 = some (.if_icmp .ge 126, 3) := by decide +kernel
theorem gL_areLines_250 : zget (zMt mL_areLines) 250 = some (.iload 4, 2) := by decide +kernel
theorem gL_areLines_252 : zget (zMt mL_areLines) 252 = some (.ifCond .eq 121, 3) := by decide +kernel
theorem gL_areLines_255 : zget (zMt mL_areLines) 255 = some (.iconst (-1), 1) := by decide +kernel
theorem gL_areLines_256 : zget (zMt mL_areLines) 256 = some (.istore 8, 2) := by decide +kernel
theorem gL_areLines_258 : zget (zMt mL_areLines) 258 = some (.iconst 0, 1) := by decide +kernel
theorem gL_areLines_259 : zget (zMt mL_areLines) 259 = some (.istore 9, 2) := by decide +kernel
theorem gL_areLines_261 : zget (zMt mL_areLines) 261 = some (.iload 9, 2) := by decide +kernel
theorem gL_areLines_263 : zget (zMt mL_areLines) 263 = some (.iload_n 2, 1) := by decide +kernel
theorem gL_areLines_264 : zget (zMt mL_areLines) 264 = some (.if_icmp .ge 40, 3) := by decide +kernel
theorem gL_areLines_267 : zget (zMt mL_areLines) 267 = some (.iload 8, 2) := by decide +kernel
theorem gL_areLines_269 : zget (zMt mL_areLines) 269 = some (.aload_n 0, 1) := by decide +kernel
theorem gL_areLines_270 : zget (zMt mL_areLines) 270 = some (.bipush 16, 2) := by decide +kernel
theorem gL_areLines_272 : zget (zMt mL_areLines) 272 = some (.iload 9, 2) := by decide +kernel
theorem gL_areLines_274 : zget (zMt mL_areLines) 274 = some (.invokestatic 138, 3) := by decide +kernel
theorem gL_areLines_277 : zget (zMt mL_areLines) 277 = some (.iload 7, 2) := by decide +kernel
theorem gL_areLines_279 : zget (zMt mL_areLines) 279 = some (.if_icmp .ne 15, 3) := by decide +kernel
theorem gL_areLines_282 : zget (zMt mL_areLines) 282 = some (.aload_n 0, 1) := by decide +kernel
theorem gL_areLines_283 : zget (zMt mL_areLines) 283 = some (.iconst 2, 1) := by decide +kernel
theorem gL_areLines_284 : zget (zMt mL_areLines) 284 = some (.iload 9, 2) := by decide +kernel
theorem gL_areLines_286 : zget (zMt mL_areLines) 286 = some (.invokestatic 138, 3) := by decide +kernel
theorem gL_areLines_289 : zget (zMt mL_areLines) 289 = some (.iconst 1, 1) := by decide +kernel
theorem gL_areLines_290 : zget (zMt mL_areLines) 290 = some (.iadd, 1) := by decide +kernel
theorem gL_areLines_291 : zget (zMt mL_areLines) 291 = some (.goto 4, 3) := by decide +kernel
theorem gL_areLines_294 : zget (zMt mL_areLines) 294 = some (.iconst 0, 1) := by decide +kernel
theorem gL_areLines_295 : zget (zMt mL_areLines) 295 = some (.iadd, 1) := by decide +kernel
theorem gL_areLines_296 : zget (zMt mL_areLines) 296 = some (.istore 8, 2) := by decide +kernel
theorem gL_areLines_298 : zget (zMt mL_areLines) 298 = some (.iinc 9 1, 3) := by decide +kernel
theorem gL_areLines_301 : zget (zMt mL_areLines) 301 = some (.goto (-40), 3) := by decide +kernel
theorem gL_areLines_304 : zget (zMt mL_areLines) 304 = some (.aload_n 0, 1) := by decide +kernel
theorem gL_areLines_305 : zget (zMt mL_areLines) 305 = some (.bipush 17, 2) := by decide +kernel
theorem gL_areLines_307 : zget (zMt mL_areLines) 307 = some (.iload 7, 2) := by decide +kernel
theorem gL_areLines_309 : zget (zMt mL_areLines) 309 = some (.invokestatic 138, 3) := by decide +kernel
theorem gL_areLines_312 : zget (zMt mL_areLines) 312 = some (.iload 8, 2) := by decide +kernel
theorem gL_areLines_314 : zget (zMt mL_areLines) 314 = some (.if_icmp .ne 7, 3) := by decide +kernel
theorem gL_areLines_317 : zget (zMt mL_areLines) 317 = some (.iconst 1, 1) := by decide +kernel
theorem gL_areLines_318 : zget (zMt mL_areLines) 318 = some (.goto 4, 3) := by decide +kernel
theorem gL_areLines_321 : zget (zMt mL_areLines) 321 = some (.iconst 0, 1) := by decide +kernel
theorem gL_areLines_322 : zget (zMt mL_areLines) 322 = some (.istore 4, 2) := by decide +kernel
theorem gL_areLines_324 : zget (zMt mL_areLines) 324 = some (.iload 5, 2) := by decide +kernel
theorem gL_areLines_326 : zget (zMt mL_areLines) 326 = some (.iload 8, 2) := by decide +kernel
theorem gL_areLines_328 : zget (zMt mL_areLines) 328 = some (.iload_n 1, 1) := by decide +kernel
theorem gL_areLines_329 : zget (zMt mL_areLines) 329 = some (.if_icmp .le 13, 3) := by decide +kernel
theorem gL_areLines_332 : zget (zMt mL_areLines) 332 = some (.bipush 100, 2) := by decide +kernel
theorem gL_areLines_334 : zget (zMt mL_areLines) 334 = some (.iload 8, 2) := by decide +kernel
theorem gL_areLines_336 : zget (zMt mL_areLines) 336 = some (.iload_n 1, 1) := by decide +kernel
theorem gL_areLines_337 : zget (zMt mL_areLines) 337 = some (.isub, 1) := by decide +kernel
theorem gL_areLines_338 : zget (zMt mL_areLines) 338 = some (.imul, 1) := by decide +kernel
theorem gL_areLines_339 : zget (zMt mL_areLines) 339 = some (.goto 25, 3) := by decide +kernel
theorem gL_areLines_342 : zget (zMt mL_areLines) 342 = some (.iload 7, 2) := by decide +kernel
theorem gL_areLines_344 : zget (zMt mL_areLines) 344 = some (.iload 6, 2) := by decide +kernel
theorem gL_areLines_346 : zget (zMt mL_areLines) 346 = some (.iconst 1, 1) := by decide +kernel
theorem gL_areLines_347 : zget (zMt mL_areLines) 347 = some (.isub, 1) := by decide +kernel
theorem gL_areLines_348 : zget (zMt mL_areLines) 348 = some (.if_icmp .ne 7, 3) := by decide +kernel
theorem gL_areLines_351 : zget (zMt mL_areLines) 351 = some (.iconst 0, 1) := by decide +kernel
theorem gL_areLines_352 : zget (zMt mL_areLines) 352 = some (.goto 12, 3) := by decide +kernel
theorem gL_areLines_355 : zget (zMt mL_areLines) 355 = some (.iload_n 1, 1) := by decide +kernel
theorem gL_areLines_356 : zget (zMt mL_areLines) 356 = some (.iload 8, 2) := by decide +kernel
theorem gL_areLines_358 : zget (zMt mL_areLines) 358 = some (.isub, 1) := by decide +kernel
theorem gL_areLines_359 : zget (zMt mL_areLines) 359 = some (.iload_n 1, 1) := by decide +kernel
theorem gL_areLines_360 : zget (zMt mL_areLines) 360 = some (.iload 8, 2) := by decide +kernel
theorem gL_areLines_362 : zget (zMt mL_areLines) 362 = some (.isub, 1) := by decide +kernel
theorem gL_areLines_363 : zget (zMt mL_areLines) 363 = some (.imul, 1) := by decide +kernel
theorem gL_areLines_364 : zget (zMt mL_areLines) 364 = some (.iadd, 1) := by decide +kernel
theorem gL_areLines_365 : zget (zMt mL_areLines) 365 = some (.istore 5, 2) := by decide +kernel
theorem gL_areLines_367 : zget (zMt mL_areLines) 367 = some (.iinc 7 1, 3) := by decide +kernel
theorem gL_areLines_370 : zget (zMt mL_areLines) 370 = some (.goto (-127), 3) := by decide +kernel
theorem gL_areLines_373 : zget (zMt mL_areLines) 373 = some (.iload 4, 2) := by decide +kernel
theorem gL_areLines_375 : zget (zMt mL_areLines) 375 = some (.ifCond .eq 60, 3) := by decide +kernel
theorem gL_areLines_378 : zget (zMt mL_areLines) 378 = some (.iload 5, 2) := by decide +kernel
theorem gL_areLines_380 : zget (zMt mL_areLines) 380 = some (.iload_n 3, 1) := by decide +kernel
theorem gL_areLines_381 : zget (zMt mL_areLines) 381 = some (.if_icmp .ne 54, 3) := by decide +kernel
theorem gL_areLines_384 : zget (zMt mL_areLines) 384 = some (.aload_n 0, 1) := by decide +kernel
theorem gL_areLines_385 : zget (zMt mL_areLines) 385 = some (.bipush 17, 2) := by decide +kernel
theorem gL_areLines_387 : zget (zMt mL_areLines) 387 = some (.iload 6, 2) := by decide +kernel
theorem gL_areLines_389 : zget (zMt mL_areLines) 389 = some (.invokestatic 138, 3) := by decide +kernel
theorem gL_areLines_392 : zget (zMt mL_areLines) 392 = some (.sipush (-2005), 3) := by decide +kernel
theorem gL_areLines_395 : zget (zMt mL_areLines) 395 = some (.if_icmp .ne 40, 3) := by decide +kernel
theorem gL_areLines_398 : zget (zMt mL_areLines) 398 = some (.aload_n 0, 1) := by decide +kernel
theorem gL_areLines_399 : zget (zMt mL_areLines) 399 = some (.bipush 17, 2) := by decide +kernel
theorem gL_areLines_401 : zget (zMt mL_areLines) 401 = some (.iconst (-1), 1) := by decide +kernel
theorem gL_areLines_402 : zget (zMt mL_areLines) 402 = some (.invokestatic 138, 3) := by decide +kernel
theorem gL_areLines_405 : zget (zMt mL_areLines) 405 = some (.sipush (-2005), 3) := by decide +kernel
theorem gL_areLines_408 : zget (zMt mL_areLines) 408 = some (.if_icmp .ne 27, 3) := by decide +kernel
theorem gL_areLines_411 : zget (zMt mL_areLines) 411 = some (.aload_n 0, 1) := by decide +kernel
theorem gL_areLines_412 : zget (zMt mL_areLines) 412 = some (.bipush 12, 2) := by decide +kernel
theorem gL_areLines_414 : zget (zMt mL_areLines) 414 = some (.iconst 0, 1) := by decide +kernel
theorem gL_areLines_415 : zget (zMt mL_areLines) 415 = some (.iconst 0, 1) := by decide +kernel
theorem gL_areLines_416 : zget (zMt mL_areLines) 416 = some (.invokestatic 158, 3) := by decide +kernel
theorem gL_areLines_419 : zget (zMt mL_areLines) 419 = some (.iload 6, 2) := by decide +kernel
theorem gL_areLines_421 : zget (zMt mL_areLines) 421 = some (.if_icmp .ne 14, 3) := by decide +kernel
theorem gL_areLines_424 : zget (zMt mL_areLines) 424 = some (.aload_n 0, 1) := by decide +kernel
theorem gL_areLines_425 : zget (zMt mL_areLines) 425 = some (.invokevirtual 161, 3) := by decide +kernel
theorem gL_areLines_428 : zget (zMt mL_areLines) 428 = some (.ifCond .eq 7, 3) := by decide +kernel
theorem gL_areLines_431 : zget (zMt mL_areLines) 431 = some (.iconst 1, 1) := by decide +kernel
theorem gL_areLines_432 : zget (zMt mL_areLines) 432 = some (.goto 4, 3) := by decide +kernel
theorem gL_areLines_435 : zget (zMt mL_areLines) 435 = some (.iconst 0, 1) := by decide +kernel
theorem gL_areLines_436 : zget (zMt mL_areLines) 436 = some (.ireturn, 1) := by decide +kernel
theorem gL_areRules_0 : zget (zMt mL_areRules) 0 = some (.aload_n 0, 1) := rfl
theorem gL_areRules_1 : zget (zMt mL_areRules) 1 = some (.bipush 13, 2) := rfl
theorem gL_areRules_3 : zget (zMt mL_areRules) 3 = some (.iconst 5, 1) := rfl
theorem gL_areRules_4 : zget (zMt mL_areRules) 4 = some (.invokestatic 138, 3) := rfl
theorem gL_areRules_7 : zget (zMt mL_areRules) 7 = some (.sipush (-2002), 3) := rfl
theorem gL_areRules_10 : zget (zMt mL_areRules) 10 = some (.if_icmp .ne 46, 3) := rfl
theorem gL_areRules_13 : zget (zMt mL_areRules) 13 = some (.aload_n 0, 1) := rfl
theorem gL_areRules_14 : zget (zMt mL_areRules) 14 = some (.bipush 13, 2) := rfl
theorem gL_areRules_16 : zget (zMt mL_areRules) 16 = some (.iconst (-1), 1) := rfl
theorem gL_areRules_17 : zget (zMt mL_areRules) 17 = some (.invokestatic 138, 3) := rfl
theorem gL_areRules_20 : zget (zMt mL_areRules) 20 = some (.sipush (-2002), 3) := rfl
theorem gL_areRules_23 : zget (zMt mL_areRules) 23 = some (.if_icmp .ne 33, 3) := rfl
theorem gL_areRules_26 : zget (zMt mL_areRules) 26 = some (.aload_n 0, 1) := rfl
theorem gL_areRules_27 : zget (zMt mL_areRules) 27 = some (.bipush 14, 2) := rfl
theorem gL_areRules_29 : zget (zMt mL_areRules) 29 = some (.iconst 5, 1) := rfl
theorem gL_areRules_30 : zget (zMt mL_areRules) 30 = some (.invokestatic 138, 3) := rfl
theorem gL_areRules_33 : zget (zMt mL_areRules) 33 = some (.sipush (-2005), 3) := rfl
theorem gL_areRules_36 : zget (zMt mL_areRules) 36 = some (.if_icmp .ne 20, 3) := rfl
theorem gL_areRules_39 : zget (zMt mL_areRules) 39 = some (.aload_n 0, 1) := rfl
theorem gL_areRules_40 : zget (zMt mL_areRules) 40 = some (.bipush 14, 2) := rfl
theorem gL_areRules_42 : zget (zMt mL_areRules) 42 = some (.iconst (-1), 1) := rfl
theorem gL_areRules_43 : zget (zMt mL_areRules) 43 = some (.invokestatic 138, 3) := rfl
theorem gL_areRules_46 : zget (zMt mL_areRules) 46 = some (.sipush (-2005), 3) := rfl
theorem gL_areRules_49 : zget (zMt mL_areRules) 49 = some (.if_icmp .ne 7, 3) := rfl
theorem gL_areRules_52 : zget (zMt mL_areRules) 52 = some (.iconst 1, 1) := rfl
theorem gL_areRules_53 : zget (zMt mL_areRules) 53 = some (.goto 4, 3) := rfl
theorem gL_areRules_56 : zget (zMt mL_areRules) 56 = some (.iconst 0, 1) := rfl
theorem gL_areRules_57 : zget (zMt mL_areRules) 57 = some (.istore_n 1, 1) := rfl
theorem gL_areRules_58 : zget (zMt mL_areRules) 58 = some (.iconst 0, 1) := rfl
theorem gL_areRules_59 : zget (zMt mL_areRules) 59 = some (.istore_n 2, 1) := rfl
theorem gL_areRules_60 : zget (zMt mL_areRules) 60 = some (.iconst 0, 1) := rfl
theorem gL_areRules_61 : zget (zMt mL_areRules) 61 = some (.istore_n 3, 1) := rfl
theorem gL_areRules_62 : zget (zMt mL_areRules) 62 = some (.iload_n 3, 1) := rfl
theorem gL_areRules_63 : zget (zMt mL_areRules) 63 = some (.iconst 5, 1) := rfl
theorem gL_areRules_64 : zget (zMt mL_areRules) 64 = some (.if_icmp .ge 138, 3) := rfl
theorem gL_areRules_67 : zget (zMt mL_areRules) 67 = some (.iload_n 1, 1) := rfl
theorem gL_areRules_68 : zget (zMt mL_areRules) 68 = some (.ifCond .eq 134, 3) := rfl
theorem gL_areRules_71 : zget (zMt mL_areRules) 71 = some (.aload_n 0, 1) := rfl
theorem gL_areRules_72 : zget (zMt mL_areRules) 72 = some (.bipush 14, 2) := rfl
theorem gL_areRules_74 : zget (zMt mL_areRules) 74 = some (.iload_n 3, 1) := rfl
theorem gL_areRules_75 : zget (zMt mL_areRules) 75 = some (.invokestatic 138, 3) := rfl
theorem gL_areRules_78 : zget (zMt mL_areRules) 78 = some (.istore 4, 2) := rfl
theorem gL_areRules_80 : zget (zMt mL_areRules) 80 = some (.iload_n 3, 1) := rfl
theorem gL_areRules_81 : zget (zMt mL_areRules) 81 = some (.ifCond .ne 7, 3) := rfl
theorem gL_areRules_84 : zget (zMt mL_areRules) 84 = some (.iconst 0, 1) := rfl
theorem gL_areRules_85 : zget (zMt mL_areRules) 85 = some (.goto 12, 3) := rfl
theorem gL_areRules_88 : zget (zMt mL_areRules) 88 = some (.aload_n 0, 1) := rfl
theorem gL_areRules_89 : zget (zMt mL_areRules) 89 = some (.bipush 14, 2) := rfl
theorem gL_areRules_91 : zget (zMt mL_areRules) 91 = some (.iload_n 3, 1) := rfl
theorem gL_areRules_92 : zget (zMt mL_areRules) 92 = some (.iconst 1, 1) := rfl
theorem gL_areRules_93 : zget (zMt mL_areRules) 93 = some (.isub, 1) := rfl
theorem gL_areRules_94 : zget (zMt mL_areRules) 94 = some (.invokestatic 138, 3) := rfl
theorem gL_areRules_97 : zget (zMt mL_areRules) 97 = some (.istore 5, 2) := rfl
theorem gL_areRules_99 : zget (zMt mL_areRules) 99 = some (.iload_n 2, 1) := rfl
theorem gL_areRules_100 : zget (zMt mL_areRules) 100 = some (.iconst 1, 1) := rfl
theorem gL_areRules_101 : zget (zMt mL_areRules) 101 = some (.iload 4, 2) := rfl
theorem gL_areRules_103 : zget (zMt mL_areRules) 103 = some (.ishl, 1) := rfl
theorem gL_areRules_104 : zget (zMt mL_areRules) 104 = some (.ior, 1) := rfl
theorem gL_areRules_105 : zget (zMt mL_areRules) 105 = some (.istore_n 2, 1) := rfl
theorem gL_areRules_106 : zget (zMt mL_areRules) 106 = some (.aload_n 0, 1) := rfl
theorem gL_areRules_107 : zget (zMt mL_areRules) 107 = some (.bipush 13, 2) := rfl
theorem gL_areRules_109 : zget (zMt mL_areRules) 109 = some (.iload 4, 2) := rfl
theorem gL_areRules_111 : zget (zMt mL_areRules) 111 = some (.invokestatic 138, 3) := rfl
theorem gL_areRules_114 : zget (zMt mL_areRules) 114 = some (.ifCond .lt 80, 3) := rfl
theorem gL_areRules_117 : zget (zMt mL_areRules) 117 = some (.aload_n 0, 1) := rfl
theorem gL_areRules_118 : zget (zMt mL_areRules) 118 = some (.bipush 13, 2) := rfl
theorem gL_areRules_120 : zget (zMt mL_areRules) 120 = some (.iload 4, 2) := rfl
theorem gL_areRules_122 : zget (zMt mL_areRules) 122 = some (.invokestatic 138, 3) := rfl
theorem gL_areRules_125 : zget (zMt mL_areRules) 125 = some (.bipush 99, 2) := rfl
theorem gL_areRules_127 : zget (zMt mL_areRules) 127 = some (.if_icmp .gt 67, 3) := rfl
theorem gL_areRules_130 : zget (zMt mL_areRules) 130 = some (.iload_n 3, 1) := rfl
theorem gL_areRules_131 : zget (zMt mL_areRules) 131 = some (.ifCond .eq 48, 3) := rfl
theorem gL_areRules_134 : zget (zMt mL_areRules) 134 = some (.aload_n 0, 1) := rfl
theorem gL_areRules_135 : zget (zMt mL_areRules) 135 = some (.bipush 13, 2) := rfl
theorem gL_areRules_137 : zget (zMt mL_areRules) 137 = some (.iload 5, 2) := rfl
theorem gL_areRules_139 : zget (zMt mL_areRules) 139 = some (.invokestatic 138, 3) := rfl
theorem gL_areRules_142 : zget (zMt mL_areRules) 142 = some (.aload_n 0, 1) := rfl
theorem gL_areRules_143 : zget (zMt mL_areRules) 143 = some (.bipush 13, 2) := rfl
theorem gL_areRules_145 : zget (zMt mL_areRules) 145 = some (.iload 4, 2) := rfl
theorem gL_areRules_147 : zget (zMt mL_areRules) 147 = some (.invokestatic 138, 3) := rfl
theorem gL_areRules_150 : zget (zMt mL_areRules) 150 = some (.if_icmp .gt 29, 3) := rfl
theorem gL_areRules_153 : zget (zMt mL_areRules) 153 = some (.aload_n 0, 1) := rfl
theorem gL_areRules_154 : zget (zMt mL_areRules) 154 = some (.bipush 13, 2) := rfl
theorem gL_areRules_156 : zget (zMt mL_areRules) 156 = some (.iload 5, 2) := rfl
theorem gL_areRules_158 : zget (zMt mL_areRules) 158 = some (.invokestatic 138, 3) := rfl
theorem gL_areRules_161 : zget (zMt mL_areRules) 161 = some (.aload_n 0, 1) := rfl
theorem gL_areRules_162 : zget (zMt mL_areRules) 162 = some (.bipush 13, 2) := rfl
theorem gL_areRules_164 : zget (zMt mL_areRules) 164 = some (.iload 4, 2) := rfl
theorem gL_areRules_166 : zget (zMt mL_areRules) 166 = some (.invokestatic 138, 3) := rfl
theorem gL_areRules_169 : zget (zMt mL_areRules) 169 = some (.if_icmp .ne 25, 3) := rfl
theorem gL_areRules_172 : zget (zMt mL_areRules) 172 = some (.iload 5, 2) := rfl
theorem gL_areRules_174 : zget (zMt mL_areRules) 174 = some (.iload 4, 2) := rfl
theorem gL_areRules_176 : zget (zMt mL_areRules) 176 = some (.if_icmp .ge 18, 3) := rfl
theorem gL_areRules_179 : zget (zMt mL_areRules) 179 = some (.aload_n 0, 1) := rfl
theorem gL_areRules_180 : zget (zMt mL_areRules) 180 = some (.iload 4, 2) := rfl
theorem gL_areRules_182 : zget (zMt mL_areRules) 182 = some (.invokevirtual 164, 3) := rfl
theorem gL_areRules_185 : zget (zMt mL_areRules) 185 = some (.lconst 0, 1) := rfl
theorem gL_areRules_186 : zget (zMt mL_areRules) 186 = some (.lcmp, 1) := rfl
theorem gL_areRules_187 : zget (zMt mL_areRules) 187 = some (.ifCond .lt 7, 3) := rfl
theorem gL_areRules_190 : zget (zMt mL_areRules) 190 = some (.iconst 1, 1) := rfl
theorem gL_areRules_191 : zget (zMt mL_areRules) 191 = some (.goto 4, 3) := by decide +kernel
theorem gL_areRules_194 : zget (zMt mL_areRules) 194 = some (.iconst 0, 1) := by decide +kernel
theorem gL_areRules_195 : zget (zMt mL_areRules) 195 = some (.istore_n 1, 1) := by decide +kernel
theorem gL_areRules_196 : zget (zMt mL_areRules) 196 = some (.iinc 3 1, 3) := by decide +kernel
theorem gL_areRules_199 : zget (zMt mL_areRules) 199 = some (.goto (-137), 3) := by decide +kernel
theorem gL_areRules_202 : zget (zMt mL_areRules) 202 = some (.iload_n 1, 1) := by decide +kernel
theorem gL_areRules_203 : zget (zMt mL_areRules) 203 = some (.ifCond .eq 13, 3) := by decide +kernel
theorem gL_areRules_206 : zget (zMt mL_areRules) 206 = some (.iload_n 2, 1) := by decide +kernel
theorem gL_areRules_207 : zget (zMt mL_areRules) 207 = some (.bipush 31, 2) := by decide +kernel
theorem gL_areRules_209 : zget (zMt mL_areRules) 209 = some (.if_icmp .ne 7, 3) := by decide +kernel
theorem gL_areRules_212 : zget (zMt mL_areRules) 212 = some (.iconst 1, 1) := by decide +kernel
theorem gL_areRules_213 : zget (zMt mL_areRules) 213 = some (.goto 4, 3) := by decide +kernel
theorem gL_areRules_216 : zget (zMt mL_areRules) 216 = some (.iconst 0, 1) := by decide +kernel
theorem gL_areRules_217 : zget (zMt mL_areRules) 217 = some (.ireturn, 1) := by decide +kernel
theorem gL_entries_0 : zget (zMt mL_entries) 0 = some (.aload_n 0, 1) := rfl
theorem gL_entries_1 : zget (zMt mL_entries) 1 = some (.invokevirtual 135, 3) := rfl
theorem gL_entries_4 : zget (zMt mL_entries) 4 = some (.newarray .int, 2) := rfl
theorem gL_entries_6 : zget (zMt mL_entries) 6 = some (.astore_n 1, 1) := rfl
theorem gL_entries_7 : zget (zMt mL_entries) 7 = some (.iconst 0, 1) := rfl
theorem gL_entries_8 : zget (zMt mL_entries) 8 = some (.istore_n 2, 1) := rfl
theorem gL_entries_9 : zget (zMt mL_entries) 9 = some (.iload_n 2, 1) := rfl
theorem gL_entries_10 : zget (zMt mL_entries) 10 = some (.aload_n 1, 1) := rfl
theorem gL_entries_11 : zget (zMt mL_entries) 11 = some (.arraylength, 1) := rfl
theorem gL_entries_12 : zget (zMt mL_entries) 12 = some (.if_icmp .ge 64, 3) := rfl
theorem gL_entries_15 : zget (zMt mL_entries) 15 = some (.aload_n 1, 1) := rfl
theorem gL_entries_16 : zget (zMt mL_entries) 16 = some (.iload_n 2, 1) := rfl
theorem gL_entries_17 : zget (zMt mL_entries) 17 = some (.ldc 168, 2) := rfl
theorem gL_entries_19 : zget (zMt mL_entries) 19 = some (.aload_n 0, 1) := rfl
theorem gL_entries_20 : zget (zMt mL_entries) 20 = some (.bipush 6, 2) := rfl
theorem gL_entries_22 : zget (zMt mL_entries) 22 = some (.iload_n 2, 1) := rfl
theorem gL_entries_23 : zget (zMt mL_entries) 23 = some (.invokestatic 138, 3) := rfl
theorem gL_entries_26 : zget (zMt mL_entries) 26 = some (.imul, 1) := rfl
theorem gL_entries_27 : zget (zMt mL_entries) 27 = some (.sipush 1000, 3) := rfl
theorem gL_entries_30 : zget (zMt mL_entries) 30 = some (.aload_n 0, 1) := rfl
theorem gL_entries_31 : zget (zMt mL_entries) 31 = some (.iconst 2, 1) := rfl
theorem gL_entries_32 : zget (zMt mL_entries) 32 = some (.iload_n 2, 1) := rfl
theorem gL_entries_33 : zget (zMt mL_entries) 33 = some (.invokestatic 138, 3) := rfl
theorem gL_entries_36 : zget (zMt mL_entries) 36 = some (.imul, 1) := rfl
theorem gL_entries_37 : zget (zMt mL_entries) 37 = some (.iadd, 1) := rfl
theorem gL_entries_38 : zget (zMt mL_entries) 38 = some (.aload_n 0, 1) := rfl
theorem gL_entries_39 : zget (zMt mL_entries) 39 = some (.iconst 0, 1) := rfl
theorem gL_entries_40 : zget (zMt mL_entries) 40 = some (.iload_n 2, 1) := rfl
theorem gL_entries_41 : zget (zMt mL_entries) 41 = some (.invokestatic 138, 3) := rfl
theorem gL_entries_44 : zget (zMt mL_entries) 44 = some (.bipush 110, 2) := rfl
theorem gL_entries_46 : zget (zMt mL_entries) 46 = some (.if_icmp .ne 16, 3) := rfl
theorem gL_entries_49 : zget (zMt mL_entries) 49 = some (.sipush 200, 3) := rfl
theorem gL_entries_52 : zget (zMt mL_entries) 52 = some (.aload_n 0, 1) := rfl
theorem gL_entries_53 : zget (zMt mL_entries) 53 = some (.iconst 1, 1) := rfl
theorem gL_entries_54 : zget (zMt mL_entries) 54 = some (.iload_n 2, 1) := rfl
theorem gL_entries_55 : zget (zMt mL_entries) 55 = some (.invokestatic 138, 3) := rfl
theorem gL_entries_58 : zget (zMt mL_entries) 58 = some (.iadd, 1) := rfl
theorem gL_entries_59 : zget (zMt mL_entries) 59 = some (.goto 9, 3) := rfl
theorem gL_entries_62 : zget (zMt mL_entries) 62 = some (.aload_n 0, 1) := rfl
theorem gL_entries_63 : zget (zMt mL_entries) 63 = some (.iconst 0, 1) := rfl
theorem gL_entries_64 : zget (zMt mL_entries) 64 = some (.iload_n 2, 1) := rfl
theorem gL_entries_65 : zget (zMt mL_entries) 65 = some (.invokestatic 138, 3) := rfl
theorem gL_entries_68 : zget (zMt mL_entries) 68 = some (.iadd, 1) := rfl
theorem gL_entries_69 : zget (zMt mL_entries) 69 = some (.iastore, 1) := rfl
theorem gL_entries_70 : zget (zMt mL_entries) 70 = some (.iinc 2 1, 3) := rfl
theorem gL_entries_73 : zget (zMt mL_entries) 73 = some (.goto (-64), 3) := rfl
theorem gL_entries_76 : zget (zMt mL_entries) 76 = some (.aload_n 1, 1) := rfl
theorem gL_entries_77 : zget (zMt mL_entries) 77 = some (.areturn, 1) := rfl
theorem gL_areAlike_0 : zget (zMt mL_areAlike) 0 = some (.aload_n 0, 1) := rfl
theorem gL_areAlike_1 : zget (zMt mL_areAlike) 1 = some (.arraylength, 1) := rfl
theorem gL_areAlike_2 : zget (zMt mL_areAlike) 2 = some (.aload_n 1, 1) := rfl
theorem gL_areAlike_3 : zget (zMt mL_areAlike) 3 = some (.arraylength, 1) := rfl
theorem gL_areAlike_4 : zget (zMt mL_areAlike) 4 = some (.if_icmp .ne 7, 3) := rfl
theorem gL_areAlike_7 : zget (zMt mL_areAlike) 7 = some (.iconst 1, 1) := rfl
theorem gL_areAlike_8 : zget (zMt mL_areAlike) 8 = some (.goto 4, 3) := rfl
theorem gL_areAlike_11 : zget (zMt mL_areAlike) 11 = some (.iconst 0, 1) := rfl
theorem gL_areAlike_12 : zget (zMt mL_areAlike) 12 = some (.istore_n 2, 1) := rfl
theorem gL_areAlike_13 : zget (zMt mL_areAlike) 13 = some (.iconst 0, 1) := rfl
theorem gL_areAlike_14 : zget (zMt mL_areAlike) 14 = some (.istore_n 3, 1) := rfl
theorem gL_areAlike_15 : zget (zMt mL_areAlike) 15 = some (.iload_n 3, 1) := rfl
theorem gL_areAlike_16 : zget (zMt mL_areAlike) 16 = some (.aload_n 0, 1) := rfl
theorem gL_areAlike_17 : zget (zMt mL_areAlike) 17 = some (.arraylength, 1) := rfl
theorem gL_areAlike_18 : zget (zMt mL_areAlike) 18 = some (.if_icmp .ge 28, 3) := rfl
theorem gL_areAlike_21 : zget (zMt mL_areAlike) 21 = some (.iload_n 2, 1) := rfl
theorem gL_areAlike_22 : zget (zMt mL_areAlike) 22 = some (.ifCond .eq 24, 3) := rfl
theorem gL_areAlike_25 : zget (zMt mL_areAlike) 25 = some (.aload_n 0, 1) := rfl
theorem gL_areAlike_26 : zget (zMt mL_areAlike) 26 = some (.iload_n 3, 1) := rfl
theorem gL_areAlike_27 : zget (zMt mL_areAlike) 27 = some (.iaload, 1) := rfl
theorem gL_areAlike_28 : zget (zMt mL_areAlike) 28 = some (.aload_n 1, 1) := rfl
theorem gL_areAlike_29 : zget (zMt mL_areAlike) 29 = some (.iload_n 3, 1) := rfl
theorem gL_areAlike_30 : zget (zMt mL_areAlike) 30 = some (.iaload, 1) := rfl
theorem gL_areAlike_31 : zget (zMt mL_areAlike) 31 = some (.if_icmp .ne 7, 3) := rfl
theorem gL_areAlike_34 : zget (zMt mL_areAlike) 34 = some (.iconst 1, 1) := rfl
theorem gL_areAlike_35 : zget (zMt mL_areAlike) 35 = some (.goto 4, 3) := rfl
theorem gL_areAlike_38 : zget (zMt mL_areAlike) 38 = some (.iconst 0, 1) := rfl
theorem gL_areAlike_39 : zget (zMt mL_areAlike) 39 = some (.istore_n 2, 1) := rfl
theorem gL_areAlike_40 : zget (zMt mL_areAlike) 40 = some (.iinc 3 1, 3) := rfl
theorem gL_areAlike_43 : zget (zMt mL_areAlike) 43 = some (.goto (-28), 3) := rfl
theorem gL_areAlike_46 : zget (zMt mL_areAlike) 46 = some (.iload_n 2, 1) := rfl
theorem gL_areAlike_47 : zget (zMt mL_areAlike) 47 = some (.ireturn, 1) := rfl
theorem gL_acts_0 : zget (zMt mL_acts) 0 = some (.aload_n 0, 1) := rfl
theorem gL_acts_1 : zget (zMt mL_acts) 1 = some (.invokestatic 169, 3) := rfl
theorem gL_acts_4 : zget (zMt mL_acts) 4 = some (.astore_n 3, 1) := rfl
theorem gL_acts_5 : zget (zMt mL_acts) 5 = some (.aload_n 3, 1) := rfl
theorem gL_acts_6 : zget (zMt mL_acts) 6 = some (.arraylength, 1) := rfl
theorem gL_acts_7 : zget (zMt mL_acts) 7 = some (.istore 4, 2) := rfl
theorem gL_acts_9 : zget (zMt mL_acts) 9 = some (.bipush 6, 2) := rfl
theorem gL_acts_11 : zget (zMt mL_acts) 11 = some (.aload_n 1, 1) := rfl
theorem gL_acts_12 : zget (zMt mL_acts) 12 = some (.iload_n 2, 1) := rfl
theorem gL_acts_13 : zget (zMt mL_acts) 13 = some (.iconst 4, 1) := rfl
theorem gL_acts_14 : zget (zMt mL_acts) 14 = some (.invokestatic 172, 3) := rfl
theorem gL_acts_17 : zget (zMt mL_acts) 17 = some (.iadd, 1) := rfl
theorem gL_acts_18 : zget (zMt mL_acts) 18 = some (.istore 5, 2) := rfl
theorem gL_acts_20 : zget (zMt mL_acts) 20 = some (.iload 5, 2) := rfl
theorem gL_acts_22 : zget (zMt mL_acts) 22 = some (.bipush 6, 2) := rfl
theorem gL_acts_24 : zget (zMt mL_acts) 24 = some (.if_icmp .ne 19, 3) := rfl
theorem gL_acts_27 : zget (zMt mL_acts) 27 = some (.aload_n 1, 1) := rfl
theorem gL_acts_28 : zget (zMt mL_acts) 28 = some (.iload_n 2, 1) := rfl
theorem gL_acts_29 : zget (zMt mL_acts) 29 = some (.iconst 1, 1) := rfl
theorem gL_acts_30 : zget (zMt mL_acts) 30 = some (.iadd, 1) := rfl
theorem gL_acts_31 : zget (zMt mL_acts) 31 = some (.aload_n 0, 1) := rfl
theorem gL_acts_32 : zget (zMt mL_acts) 32 = some (.invokevirtual 145, 3) := rfl
theorem gL_acts_35 : zget (zMt mL_acts) 35 = some (.iconst 1, 1) := rfl
theorem gL_acts_36 : zget (zMt mL_acts) 36 = some (.iadd, 1) := rfl
theorem gL_acts_37 : zget (zMt mL_acts) 37 = some (.invokestatic 172, 3) := rfl
theorem gL_acts_40 : zget (zMt mL_acts) 40 = some (.goto 33, 3) := rfl
theorem gL_acts_43 : zget (zMt mL_acts) 43 = some (.iload 5, 2) := rfl
theorem gL_acts_45 : zget (zMt mL_acts) 45 = some (.bipush 8, 2) := rfl
theorem gL_acts_47 : zget (zMt mL_acts) 47 = some (.if_icmp .ne 15, 3) := rfl
theorem gL_acts_50 : zget (zMt mL_acts) 50 = some (.aload_n 1, 1) := rfl
theorem gL_acts_51 : zget (zMt mL_acts) 51 = some (.iload_n 2, 1) := rfl
theorem gL_acts_52 : zget (zMt mL_acts) 52 = some (.iconst 1, 1) := rfl
theorem gL_acts_53 : zget (zMt mL_acts) 53 = some (.iadd, 1) := rfl
theorem gL_acts_54 : zget (zMt mL_acts) 54 = some (.bipush 8, 2) := rfl
theorem gL_acts_56 : zget (zMt mL_acts) 56 = some (.invokestatic 172, 3) := rfl
theorem gL_acts_59 : zget (zMt mL_acts) 59 = some (.goto 14, 3) := rfl
theorem gL_acts_62 : zget (zMt mL_acts) 62 = some (.aload_n 1, 1) := rfl
theorem gL_acts_63 : zget (zMt mL_acts) 63 = some (.iload_n 2, 1) := rfl
theorem gL_acts_64 : zget (zMt mL_acts) 64 = some (.iconst 1, 1) := rfl
theorem gL_acts_65 : zget (zMt mL_acts) 65 = some (.iadd, 1) := rfl
theorem gL_acts_66 : zget (zMt mL_acts) 66 = some (.iload 4, 2) := rfl
theorem gL_acts_68 : zget (zMt mL_acts) 68 = some (.iconst 1, 1) := rfl
theorem gL_acts_69 : zget (zMt mL_acts) 69 = some (.iadd, 1) := rfl
theorem gL_acts_70 : zget (zMt mL_acts) 70 = some (.invokestatic 172, 3) := rfl
theorem gL_acts_73 : zget (zMt mL_acts) 73 = some (.istore 6, 2) := rfl
theorem gL_acts_75 : zget (zMt mL_acts) 75 = some (.iload 5, 2) := rfl
theorem gL_acts_77 : zget (zMt mL_acts) 77 = some (.bipush 8, 2) := rfl
theorem gL_acts_79 : zget (zMt mL_acts) 79 = some (.if_icmp .ne 15, 3) := rfl
theorem gL_acts_82 : zget (zMt mL_acts) 82 = some (.aload_n 1, 1) := rfl
theorem gL_acts_83 : zget (zMt mL_acts) 83 = some (.iload_n 2, 1) := rfl
theorem gL_acts_84 : zget (zMt mL_acts) 84 = some (.iconst 2, 1) := rfl
theorem gL_acts_85 : zget (zMt mL_acts) 85 = some (.iadd, 1) := rfl
theorem gL_acts_86 : zget (zMt mL_acts) 86 = some (.bipush 12, 2) := rfl
theorem gL_acts_88 : zget (zMt mL_acts) 88 = some (.invokestatic 172, 3) := rfl
theorem gL_acts_91 : zget (zMt mL_acts) 91 = some (.goto 14, 3) := rfl
theorem gL_acts_94 : zget (zMt mL_acts) 94 = some (.aload_n 1, 1) := rfl
theorem gL_acts_95 : zget (zMt mL_acts) 95 = some (.iload_n 2, 1) := rfl
theorem gL_acts_96 : zget (zMt mL_acts) 96 = some (.iconst 2, 1) := rfl
theorem gL_acts_97 : zget (zMt mL_acts) 97 = some (.iadd, 1) := rfl
theorem gL_acts_98 : zget (zMt mL_acts) 98 = some (.iload 4, 2) := rfl
theorem gL_acts_100 : zget (zMt mL_acts) 100 = some (.iconst 1, 1) := rfl
theorem gL_acts_101 : zget (zMt mL_acts) 101 = some (.iadd, 1) := rfl
theorem gL_acts_102 : zget (zMt mL_acts) 102 = some (.invokestatic 172, 3) := rfl
theorem gL_acts_105 : zget (zMt mL_acts) 105 = some (.istore 7, 2) := rfl
theorem gL_acts_107 : zget (zMt mL_acts) 107 = some (.aload_n 0, 1) := rfl
theorem gL_acts_108 : zget (zMt mL_acts) 108 = some (.iload 5, 2) := rfl
theorem gL_acts_110 : zget (zMt mL_acts) 110 = some (.iload 6, 2) := rfl
theorem gL_acts_112 : zget (zMt mL_acts) 112 = some (.iload 7, 2) := rfl
theorem gL_acts_114 : zget (zMt mL_acts) 114 = some (.invokestatic 158, 3) := rfl
theorem gL_acts_117 : zget (zMt mL_acts) 117 = some (.istore 8, 2) := rfl
theorem gL_acts_119 : zget (zMt mL_acts) 119 = some (.iload 8, 2) := rfl
theorem gL_acts_121 : zget (zMt mL_acts) 121 = some (.ifCond .ge 12, 3) := rfl
theorem gL_acts_124 : zget (zMt mL_acts) 124 = some (.aload_n 3, 1) := rfl
theorem gL_acts_125 : zget (zMt mL_acts) 125 = some (.aload_n 0, 1) := rfl
theorem gL_acts_126 : zget (zMt mL_acts) 126 = some (.invokestatic 169, 3) := rfl
theorem gL_acts_129 : zget (zMt mL_acts) 129 = some (.invokestatic 176, 3) := rfl
theorem gL_acts_132 : zget (zMt mL_acts) 132 = some (.ireturn, 1) := rfl
theorem gL_acts_133 : zget (zMt mL_acts) 133 = some (.aload_n 0, 1) := rfl
theorem gL_acts_134 : zget (zMt mL_acts) 134 = some (.invokevirtual 154, 3) := rfl
theorem gL_acts_137 : zget (zMt mL_acts) 137 = some (.ifCond .ne 7, 3) := rfl
theorem gL_acts_140 : zget (zMt mL_acts) 140 = some (.iconst 1, 1) := rfl
theorem gL_acts_141 : zget (zMt mL_acts) 141 = some (.goto 4, 3) := rfl
theorem gL_acts_144 : zget (zMt mL_acts) 144 = some (.iconst 0, 1) := rfl
theorem gL_acts_145 : zget (zMt mL_acts) 145 = some (.istore 9, 2) := rfl
theorem gL_acts_147 : zget (zMt mL_acts) 147 = some (.aload_n 1, 1) := rfl
theorem gL_acts_148 : zget (zMt mL_acts) 148 = some (.iload_n 2, 1) := rfl
theorem gL_acts_149 : zget (zMt mL_acts) 149 = some (.iconst 3, 1) := rfl
theorem gL_acts_150 : zget (zMt mL_acts) 150 = some (.iadd, 1) := rfl
theorem gL_acts_151 : zget (zMt mL_acts) 151 = some (.iconst 3, 1) := rfl
theorem gL_acts_152 : zget (zMt mL_acts) 152 = some (.invokestatic 172, 3) := rfl
theorem gL_acts_155 : zget (zMt mL_acts) 155 = some (.ifCond .ne 55, 3) := rfl
theorem gL_acts_158 : zget (zMt mL_acts) 158 = some (.aload_n 0, 1) := rfl
theorem gL_acts_159 : zget (zMt mL_acts) 159 = some (.bipush 10, 2) := rfl
theorem gL_acts_161 : zget (zMt mL_acts) 161 = some (.iconst 0, 1) := rfl
theorem gL_acts_162 : zget (zMt mL_acts) 162 = some (.iconst 0, 1) := rfl
theorem gL_acts_163 : zget (zMt mL_acts) 163 = some (.invokestatic 158, 3) := rfl
theorem gL_acts_166 : zget (zMt mL_acts) 166 = some (.istore 10, 2) := rfl
theorem gL_acts_168 : zget (zMt mL_acts) 168 = some (.iload 9, 2) := rfl
theorem gL_acts_170 : zget (zMt mL_acts) 170 = some (.ifCond .eq 37, 3) := rfl
theorem gL_acts_173 : zget (zMt mL_acts) 173 = some (.iload 10, 2) := rfl
theorem gL_acts_175 : zget (zMt mL_acts) 175 = some (.ifCond .lt 32, 3) := by decide +kernel
theorem gL_acts_178 : zget (zMt mL_acts) 178 = some (.iload 10, 2) := by decide +kernel
theorem gL_acts_180 : zget (zMt mL_acts) 180 = some (.bipush 10, 2) := by decide +kernel
theorem gL_acts_182 : zget (zMt mL_acts) 182 = some (.if_icmp .ge 25, 3) := by decide +kernel
theorem gL_acts_185 : zget (zMt mL_acts) 185 = some (.aload_n 3, 1) := by decide +kernel
theorem gL_acts_186 : zget (zMt mL_acts) 186 = some (.aload_n 0, 1) := by decide +kernel
theorem gL_acts_187 : zget (zMt mL_acts) 187 = some (.invokestatic 169, 3) := by decide +kernel
theorem gL_acts_190 : zget (zMt mL_acts) 190 = some (.invokestatic 176, 3) := by decide +kernel
theorem gL_acts_193 : zget (zMt mL_acts) 193 = some (.ifCond .eq 14, 3) := by decide +kernel
theorem gL_acts_196 : zget (zMt mL_acts) 196 = some (.aload_n 0, 1) := by decide +kernel
theorem gL_acts_197 : zget (zMt mL_acts) 197 = some (.invokevirtual 154, 3) := by decide +kernel
theorem gL_acts_200 : zget (zMt mL_acts) 200 = some (.ifCond .ne 7, 3) := by decide +kernel
theorem gL_acts_203 : zget (zMt mL_acts) 203 = some (.iconst 1, 1) := by decide +kernel
theorem gL_acts_204 : zget (zMt mL_acts) 204 = some (.goto 4, 3) := by decide +kernel
theorem gL_acts_207 : zget (zMt mL_acts) 207 = some (.iconst 0, 1) := by decide +kernel
theorem gL_acts_208 : zget (zMt mL_acts) 208 = some (.istore 9, 2) := by decide +kernel
theorem gL_acts_210 : zget (zMt mL_acts) 210 = some (.iload 9, 2) := by decide +kernel
theorem gL_acts_212 : zget (zMt mL_acts) 212 = some (.ireturn, 1) := by decide +kernel
theorem gL_law_0 : zget (zMt mL_law) 0 = some (.new 16, 3) := rfl
theorem gL_law_3 : zget (zMt mL_law) 3 = some (.dup, 1) := rfl
theorem gL_law_4 : zget (zMt mL_law) 4 = some (.invokespecial 180, 3) := rfl
theorem gL_law_7 : zget (zMt mL_law) 7 = some (.astore_n 1, 1) := rfl
theorem gL_law_8 : zget (zMt mL_law) 8 = some (.bipush 40, 2) := rfl
theorem gL_law_10 : zget (zMt mL_law) 10 = some (.istore_n 2, 1) := rfl
theorem gL_law_11 : zget (zMt mL_law) 11 = some (.aload_n 1, 1) := rfl
theorem gL_law_12 : zget (zMt mL_law) 12 = some (.bipush 10, 2) := rfl
theorem gL_law_14 : zget (zMt mL_law) 14 = some (.iconst 0, 1) := rfl
theorem gL_law_15 : zget (zMt mL_law) 15 = some (.iconst 0, 1) := rfl
theorem gL_law_16 : zget (zMt mL_law) 16 = some (.invokestatic 158, 3) := rfl
theorem gL_law_19 : zget (zMt mL_law) 19 = some (.sipush (-2003), 3) := rfl
theorem gL_law_22 : zget (zMt mL_law) 22 = some (.if_icmp .ne 46, 3) := rfl
theorem gL_law_25 : zget (zMt mL_law) 25 = some (.aload_n 1, 1) := rfl
theorem gL_law_26 : zget (zMt mL_law) 26 = some (.bipush 12, 2) := rfl
theorem gL_law_28 : zget (zMt mL_law) 28 = some (.iconst 0, 1) := rfl
theorem gL_law_29 : zget (zMt mL_law) 29 = some (.iconst 0, 1) := rfl
theorem gL_law_30 : zget (zMt mL_law) 30 = some (.invokestatic 158, 3) := rfl
theorem gL_law_33 : zget (zMt mL_law) 33 = some (.ifCond .ne 35, 3) := rfl
theorem gL_law_36 : zget (zMt mL_law) 36 = some (.aload_n 1, 1) := rfl
theorem gL_law_37 : zget (zMt mL_law) 37 = some (.invokevirtual 154, 3) := rfl
theorem gL_law_40 : zget (zMt mL_law) 40 = some (.ifCond .eq 28, 3) := rfl
theorem gL_law_43 : zget (zMt mL_law) 43 = some (.aload_n 1, 1) := rfl
theorem gL_law_44 : zget (zMt mL_law) 44 = some (.invokevirtual 151, 3) := rfl
theorem gL_law_47 : zget (zMt mL_law) 47 = some (.ifCond .ne 21, 3) := rfl
theorem gL_law_50 : zget (zMt mL_law) 50 = some (.aload_n 1, 1) := rfl
theorem gL_law_51 : zget (zMt mL_law) 51 = some (.bipush 7, 2) := rfl
theorem gL_law_53 : zget (zMt mL_law) 53 = some (.iconst 0, 1) := rfl
theorem gL_law_54 : zget (zMt mL_law) 54 = some (.iconst 0, 1) := rfl
theorem gL_law_55 : zget (zMt mL_law) 55 = some (.invokestatic 158, 3) := rfl
theorem gL_law_58 : zget (zMt mL_law) 58 = some (.sipush (-2003), 3) := rfl
theorem gL_law_61 : zget (zMt mL_law) 61 = some (.if_icmp .ne 7, 3) := rfl
theorem gL_law_64 : zget (zMt mL_law) 64 = some (.iconst 1, 1) := rfl
theorem gL_law_65 : zget (zMt mL_law) 65 = some (.goto 4, 3) := rfl
theorem gL_law_68 : zget (zMt mL_law) 68 = some (.iconst 0, 1) := rfl
theorem gL_law_69 : zget (zMt mL_law) 69 = some (.istore_n 3, 1) := rfl
theorem gL_law_70 : zget (zMt mL_law) 70 = some (.iconst 0, 1) := rfl
theorem gL_law_71 : zget (zMt mL_law) 71 = some (.istore 4, 2) := rfl
theorem gL_law_73 : zget (zMt mL_law) 73 = some (.iload 4, 2) := rfl
theorem gL_law_75 : zget (zMt mL_law) 75 = some (.bipush 70, 2) := rfl
theorem gL_law_77 : zget (zMt mL_law) 77 = some (.if_icmp .ge 564, 3) := rfl
theorem gL_law_80 : zget (zMt mL_law) 80 = some (.iload_n 3, 1) := rfl
theorem gL_law_81 : zget (zMt mL_law) 81 = some (.ifCond .eq 560, 3) := rfl
theorem gL_law_84 : zget (zMt mL_law) 84 = some (.bipush 8, 2) := rfl
theorem gL_law_86 : zget (zMt mL_law) 86 = some (.iload 4, 2) := rfl
theorem gL_law_88 : zget (zMt mL_law) 88 = some (.imul, 1) := rfl
theorem gL_law_89 : zget (zMt mL_law) 89 = some (.istore 5, 2) := rfl
theorem gL_law_91 : zget (zMt mL_law) 91 = some (.aload_n 1, 1) := rfl
theorem gL_law_92 : zget (zMt mL_law) 92 = some (.invokevirtual 135, 3) := rfl
theorem gL_law_95 : zget (zMt mL_law) 95 = some (.istore 6, 2) := rfl
theorem gL_law_97 : zget (zMt mL_law) 97 = some (.iload 4, 2) := rfl
theorem gL_law_99 : zget (zMt mL_law) 99 = some (.bipush 10, 2) := rfl
theorem gL_law_101 : zget (zMt mL_law) 101 = some (.if_icmp .ge 13, 3) := rfl
theorem gL_law_104 : zget (zMt mL_law) 104 = some (.aload_n 0, 1) := rfl
theorem gL_law_105 : zget (zMt mL_law) 105 = some (.iload 5, 2) := rfl
theorem gL_law_107 : zget (zMt mL_law) 107 = some (.iconst 4, 1) := rfl
theorem gL_law_108 : zget (zMt mL_law) 108 = some (.invokestatic 172, 3) := rfl
theorem gL_law_111 : zget (zMt mL_law) 111 = some (.goto 11, 3) := rfl
theorem gL_law_114 : zget (zMt mL_law) 114 = some (.aload_n 0, 1) := rfl
theorem gL_law_115 : zget (zMt mL_law) 115 = some (.iload 5, 2) := rfl
theorem gL_law_117 : zget (zMt mL_law) 117 = some (.bipush 12, 2) := rfl
theorem gL_law_119 : zget (zMt mL_law) 119 = some (.invokestatic 172, 3) := rfl
theorem gL_law_122 : zget (zMt mL_law) 122 = some (.istore 7, 2) := rfl
theorem gL_law_124 : zget (zMt mL_law) 124 = some (.iload 7, 2) := rfl
theorem gL_law_126 : zget (zMt mL_law) 126 = some (.ifCond .ne 57, 3) := rfl
theorem gL_law_129 : zget (zMt mL_law) 129 = some (.aload_n 1, 1) := rfl
theorem gL_law_130 : zget (zMt mL_law) 130 = some (.iconst 0, 1) := rfl
theorem gL_law_131 : zget (zMt mL_law) 131 = some (.aload_n 0, 1) := rfl
theorem gL_law_132 : zget (zMt mL_law) 132 = some (.iload 5, 2) := rfl
theorem gL_law_134 : zget (zMt mL_law) 134 = some (.iconst 1, 1) := rfl
theorem gL_law_135 : zget (zMt mL_law) 135 = some (.iadd, 1) := rfl
theorem gL_law_136 : zget (zMt mL_law) 136 = some (.bipush 6, 2) := rfl
theorem gL_law_138 : zget (zMt mL_law) 138 = some (.invokestatic 172, 3) := rfl
theorem gL_law_141 : zget (zMt mL_law) 141 = some (.iconst 1, 1) := rfl
theorem gL_law_142 : zget (zMt mL_law) 142 = some (.aload_n 0, 1) := rfl
theorem gL_law_143 : zget (zMt mL_law) 143 = some (.iload 5, 2) := rfl
theorem gL_law_145 : zget (zMt mL_law) 145 = some (.iconst 2, 1) := rfl
theorem gL_law_146 : zget (zMt mL_law) 146 = some (.iadd, 1) := rfl
theorem gL_law_147 : zget (zMt mL_law) 147 = some (.bipush 9, 2) := rfl
theorem gL_law_149 : zget (zMt mL_law) 149 = some (.invokestatic 172, 3) := rfl
theorem gL_law_152 : zget (zMt mL_law) 152 = some (.iadd, 1) := rfl
theorem gL_law_153 : zget (zMt mL_law) 153 = some (.invokestatic 158, 3) := rfl
theorem gL_law_156 : zget (zMt mL_law) 156 = some (.iload 6, 2) := rfl
theorem gL_law_158 : zget (zMt mL_law) 158 = some (.bipush 30, 2) := rfl
theorem gL_law_160 : zget (zMt mL_law) 160 = some (.if_icmp .ne 9, 3) := rfl
theorem gL_law_163 : zget (zMt mL_law) 163 = some (.sipush (-2003), 3) := rfl
theorem gL_law_166 : zget (zMt mL_law) 166 = some (.goto 5, 3) := rfl
theorem gL_law_169 : zget (zMt mL_law) 169 = some (.iload 6, 2) := rfl
theorem gL_law_171 : zget (zMt mL_law) 171 = some (.if_icmp .ne 7, 3) := rfl
theorem gL_law_174 : zget (zMt mL_law) 174 = some (.iconst 1, 1) := rfl
theorem gL_law_175 : zget (zMt mL_law) 175 = some (.goto 4, 3) := rfl
theorem gL_law_178 : zget (zMt mL_law) 178 = some (.iconst 0, 1) := rfl
theorem gL_law_179 : zget (zMt mL_law) 179 = some (.istore_n 3, 1) := rfl
theorem gL_law_180 : zget (zMt mL_law) 180 = some (.goto 407, 3) := rfl
theorem gL_law_183 : zget (zMt mL_law) 183 = some (.iload 7, 2) := rfl
theorem gL_law_185 : zget (zMt mL_law) 185 = some (.iconst 1, 1) := rfl
theorem gL_law_186 : zget (zMt mL_law) 186 = some (.if_icmp .ne 48, 3) := rfl
theorem gL_law_189 : zget (zMt mL_law) 189 = some (.aload_n 1, 1) := rfl
theorem gL_law_190 : zget (zMt mL_law) 190 = some (.iconst 1, 1) := rfl
theorem gL_law_191 : zget (zMt mL_law) 191 = some (.iconst 1, 1) := rfl
theorem gL_law_192 : zget (zMt mL_law) 192 = some (.aload_n 0, 1) := by decide +kernel
theorem gL_law_193 : zget (zMt mL_law) 193 = some (.iload 5, 2) := by decide +kernel
theorem gL_law_195 : zget (zMt mL_law) 195 = some (.iconst 1, 1) := by decide +kernel
theorem gL_law_196 : zget (zMt mL_law) 196 = some (.iadd, 1) := by decide +kernel
theorem gL_law_197 : zget (zMt mL_law) 197 = some (.bipush 9, 2) := by decide +kernel
theorem gL_law_199 : zget (zMt mL_law) 199 = some (.invokestatic 172, 3) := by decide +kernel
theorem gL_law_202 : zget (zMt mL_law) 202 = some (.iadd, 1) := by decide +kernel
theorem gL_law_203 : zget (zMt mL_law) 203 = some (.iconst 0, 1) := by decide +kernel
theorem gL_law_204 : zget (zMt mL_law) 204 = some (.invokestatic 158, 3) := by decide +kernel
theorem gL_law_207 : zget (zMt mL_law) 207 = some (.iload 6, 2) := by decide +kernel
theorem gL_law_209 : zget (zMt mL_law) 209 = some (.bipush 30, 2) := by decide +kernel
theorem gL_law_211 : zget (zMt mL_law) 211 = some (.if_icmp .ne 9, 3) := by decide +kernel
theorem gL_law_214 : zget (zMt mL_law) 214 = some (.sipush (-2003), 3) := by decide +kernel
theorem gL_law_217 : zget (zMt mL_law) 217 = some (.goto 5, 3) := by decide +kernel
theorem gL_law_220 : zget (zMt mL_law) 220 = some (.iload 6, 2) := by decide +kernel
theorem gL_law_222 : zget (zMt mL_law) 222 = some (.if_icmp .ne 7, 3) := by decide +kernel
theorem gL_law_225 : zget (zMt mL_law) 225 = some (.iconst 1, 1) := by decide +kernel
theorem gL_law_226 : zget (zMt mL_law) 226 = some (.goto 4, 3) := by decide +kernel
theorem gL_law_229 : zget (zMt mL_law) 229 = some (.iconst 0, 1) := by decide +kernel
theorem gL_law_230 : zget (zMt mL_law) 230 = some (.istore_n 3, 1) := by decide +kernel
theorem gL_law_231 : zget (zMt mL_law) 231 = some (.goto 356, 3) := by decide +kernel
theorem gL_law_234 : zget (zMt mL_law) 234 = some (.iload 7, 2) := by decide +kernel
theorem gL_law_236 : zget (zMt mL_law) 236 = some (.iconst 2, 1) := by decide +kernel
theorem gL_law_237 : zget (zMt mL_law) 237 = some (.if_icmp .ne 73, 3) := by decide +kernel
theorem gL_law_240 : zget (zMt mL_law) 240 = some (.aload_n 1, 1) := by decide +kernel
theorem gL_law_241 : zget (zMt mL_law) 241 = some (.iconst 2, 1) := by decide +kernel
theorem gL_law_242 : zget (zMt mL_law) 242 = some (.iconst 0, 1) := by decide +kernel
theorem gL_law_243 : zget (zMt mL_law) 243 = some (.iconst 0, 1) := by decide +kernel
theorem gL_law_244 : zget (zMt mL_law) 244 = some (.invokestatic 158, 3) := by decide +kernel
theorem gL_law_247 : zget (zMt mL_law) 247 = some (.istore 8, 2) := by decide +kernel
theorem gL_law_249 : zget (zMt mL_law) 249 = some (.iload 6, 2) := by decide +kernel
theorem gL_law_251 : zget (zMt mL_law) 251 = some (.bipush 30, 2) := by decide +kernel
theorem gL_law_253 : zget (zMt mL_law) 253 = some (.if_icmp .ne 19, 3) := by decide +kernel
theorem gL_law_256 : zget (zMt mL_law) 256 = some (.iload 8, 2) := by decide +kernel
theorem gL_law_258 : zget (zMt mL_law) 258 = some (.sipush (-2003), 3) := by decide +kernel
theorem gL_law_261 : zget (zMt mL_law) 261 = some (.if_icmp .ne 7, 3) := by decide +kernel
theorem gL_law_264 : zget (zMt mL_law) 264 = some (.iconst 1, 1) := by decide +kernel
theorem gL_law_265 : zget (zMt mL_law) 265 = some (.goto 41, 3) := by decide +kernel
theorem gL_law_268 : zget (zMt mL_law) 268 = some (.iconst 0, 1) := by decide +kernel
theorem gL_law_269 : zget (zMt mL_law) 269 = some (.goto 37, 3) := by decide +kernel
theorem gL_law_272 : zget (zMt mL_law) 272 = some (.iload 8, 2) := by decide +kernel
theorem gL_law_274 : zget (zMt mL_law) 274 = some (.ifCond .lt 31, 3) := by decide +kernel
theorem gL_law_277 : zget (zMt mL_law) 277 = some (.aload_n 1, 1) := by decide +kernel
theorem gL_law_278 : zget (zMt mL_law) 278 = some (.iconst 3, 1) := by decide +kernel
theorem gL_law_279 : zget (zMt mL_law) 279 = some (.iload 6, 2) := by decide +kernel
theorem gL_law_281 : zget (zMt mL_law) 281 = some (.invokestatic 138, 3) := by decide +kernel
theorem gL_law_284 : zget (zMt mL_law) 284 = some (.iload 8, 2) := by decide +kernel
theorem gL_law_286 : zget (zMt mL_law) 286 = some (.if_icmp .ne 19, 3) := by decide +kernel
theorem gL_law_289 : zget (zMt mL_law) 289 = some (.aload_n 1, 1) := by decide +kernel
theorem gL_law_290 : zget (zMt mL_law) 290 = some (.iconst 0, 1) := by decide +kernel
theorem gL_law_291 : zget (zMt mL_law) 291 = some (.iload 6, 2) := by decide +kernel
theorem gL_law_293 : zget (zMt mL_law) 293 = some (.invokestatic 138, 3) := by decide +kernel
theorem gL_law_296 : zget (zMt mL_law) 296 = some (.bipush 123, 2) := by decide +kernel
theorem gL_law_298 : zget (zMt mL_law) 298 = some (.if_icmp .ne 7, 3) := by decide +kernel
theorem gL_law_301 : zget (zMt mL_law) 301 = some (.iconst 1, 1) := by decide +kernel
theorem gL_law_302 : zget (zMt mL_law) 302 = some (.goto 4, 3) := by decide +kernel
theorem gL_law_305 : zget (zMt mL_law) 305 = some (.iconst 0, 1) := by decide +kernel
theorem gL_law_306 : zget (zMt mL_law) 306 = some (.istore_n 3, 1) := by decide +kernel
theorem gL_law_307 : zget (zMt mL_law) 307 = some (.goto 280, 3) := by decide +kernel
theorem gL_law_310 : zget (zMt mL_law) 310 = some (.iload 7, 2) := by decide +kernel
theorem gL_law_312 : zget (zMt mL_law) 312 = some (.iconst 3, 1) := by decide +kernel
theorem gL_law_313 : zget (zMt mL_law) 313 = some (.if_icmp .ne 72, 3) := by decide +kernel
theorem gL_law_316 : zget (zMt mL_law) 316 = some (.aload_n 1, 1) := by decide +kernel
theorem gL_law_317 : zget (zMt mL_law) 317 = some (.iconst 3, 1) := by decide +kernel
theorem gL_law_318 : zget (zMt mL_law) 318 = some (.iconst 0, 1) := by decide +kernel
theorem gL_law_319 : zget (zMt mL_law) 319 = some (.iconst 0, 1) := by decide +kernel
theorem gL_law_320 : zget (zMt mL_law) 320 = some (.invokestatic 158, 3) := by decide +kernel
theorem gL_law_323 : zget (zMt mL_law) 323 = some (.istore 8, 2) := by decide +kernel
theorem gL_law_325 : zget (zMt mL_law) 325 = some (.iload 8, 2) := by decide +kernel
theorem gL_law_327 : zget (zMt mL_law) 327 = some (.sipush (-2003), 3) := by decide +kernel
theorem gL_law_330 : zget (zMt mL_law) 330 = some (.if_icmp .eq 46, 3) := by decide +kernel
theorem gL_law_333 : zget (zMt mL_law) 333 = some (.iload 8, 2) := by decide +kernel
theorem gL_law_335 : zget (zMt mL_law) 335 = some (.ifCond .lt 45, 3) := by decide +kernel
theorem gL_law_338 : zget (zMt mL_law) 338 = some (.aload_n 1, 1) := by decide +kernel
theorem gL_law_339 : zget (zMt mL_law) 339 = some (.iconst 3, 1) := by decide +kernel
theorem gL_law_340 : zget (zMt mL_law) 340 = some (.iload 6, 2) := by decide +kernel
theorem gL_law_342 : zget (zMt mL_law) 342 = some (.invokestatic 138, 3) := by decide +kernel
theorem gL_law_345 : zget (zMt mL_law) 345 = some (.iload 8, 2) := by decide +kernel
theorem gL_law_347 : zget (zMt mL_law) 347 = some (.if_icmp .ne 33, 3) := by decide +kernel
theorem gL_law_350 : zget (zMt mL_law) 350 = some (.aload_n 1, 1) := by decide +kernel
theorem gL_law_351 : zget (zMt mL_law) 351 = some (.iconst 0, 1) := by decide +kernel
theorem gL_law_352 : zget (zMt mL_law) 352 = some (.iload 6, 2) := by decide +kernel
theorem gL_law_354 : zget (zMt mL_law) 354 = some (.invokestatic 138, 3) := by decide +kernel
theorem gL_law_357 : zget (zMt mL_law) 357 = some (.bipush 125, 2) := by decide +kernel
theorem gL_law_359 : zget (zMt mL_law) 359 = some (.if_icmp .ne 21, 3) := by decide +kernel
theorem gL_law_362 : zget (zMt mL_law) 362 = some (.aload_n 1, 1) := by decide +kernel
theorem gL_law_363 : zget (zMt mL_law) 363 = some (.bipush 10, 2) := by decide +kernel
theorem gL_law_365 : zget (zMt mL_law) 365 = some (.iconst 0, 1) := by decide +kernel
theorem gL_law_366 : zget (zMt mL_law) 366 = some (.iconst 0, 1) := by decide +kernel
theorem gL_law_367 : zget (zMt mL_law) 367 = some (.invokestatic 158, 3) := by decide +kernel
theorem gL_law_370 : zget (zMt mL_law) 370 = some (.sipush (-2003), 3) := by decide +kernel
theorem gL_law_373 : zget (zMt mL_law) 373 = some (.if_icmp .ne 7, 3) := by decide +kernel
theorem gL_law_376 : zget (zMt mL_law) 376 = some (.iconst 1, 1) := by decide +kernel
theorem gL_law_377 : zget (zMt mL_law) 377 = some (.goto 4, 3) := by decide +kernel
theorem gL_law_380 : zget (zMt mL_law) 380 = some (.iconst 0, 1) := by decide +kernel
theorem gL_law_381 : zget (zMt mL_law) 381 = some (.istore_n 3, 1) := by decide +kernel
theorem gL_law_382 : zget (zMt mL_law) 382 = some (.goto 205, 3) := by decide +kernel
theorem gL_law_385 : zget (zMt mL_law) 385 = some (.iload 7, 2) := by decide +kernel
theorem gL_law_387 : zget (zMt mL_law) 387 = some (.iconst 4, 1) := by decide +kernel
theorem gL_law_388 : zget (zMt mL_law) 388 = some (.if_icmp .ne 95, 3) := by decide +kernel
theorem gL_law_391 : zget (zMt mL_law) 391 = some (.iload 6, 2) := by decide +kernel
theorem gL_law_393 : zget (zMt mL_law) 393 = some (.ifCond .le 90, 3) := by decide +kernel
theorem gL_law_396 : zget (zMt mL_law) 396 = some (.aload_n 0, 1) := by decide +kernel
theorem gL_law_397 : zget (zMt mL_law) 397 = some (.iload 5, 2) := by decide +kernel
theorem gL_law_399 : zget (zMt mL_law) 399 = some (.iconst 1, 1) := by decide +kernel
theorem gL_law_400 : zget (zMt mL_law) 400 = some (.iadd, 1) := by decide +kernel
theorem gL_law_401 : zget (zMt mL_law) 401 = some (.iload 6, 2) := by decide +kernel
theorem gL_law_403 : zget (zMt mL_law) 403 = some (.invokestatic 172, 3) := by decide +kernel
theorem gL_law_406 : zget (zMt mL_law) 406 = some (.istore 8, 2) := by decide +kernel
theorem gL_law_408 : zget (zMt mL_law) 408 = some (.iload 6, 2) := by decide +kernel
theorem gL_law_410 : zget (zMt mL_law) 410 = some (.iconst 1, 1) := by decide +kernel
theorem gL_law_411 : zget (zMt mL_law) 411 = some (.isub, 1) := by decide +kernel
theorem gL_law_412 : zget (zMt mL_law) 412 = some (.iload 8, 2) := by decide +kernel
theorem gL_law_414 : zget (zMt mL_law) 414 = some (.aload_n 0, 1) := by decide +kernel
theorem gL_law_415 : zget (zMt mL_law) 415 = some (.iload 5, 2) := by decide +kernel
theorem gL_law_417 : zget (zMt mL_law) 417 = some (.iconst 2, 1) := by decide +kernel
theorem gL_law_418 : zget (zMt mL_law) 418 = some (.iadd, 1) := by decide +kernel
theorem gL_law_419 : zget (zMt mL_law) 419 = some (.iconst 4, 1) := by decide +kernel
theorem gL_law_420 : zget (zMt mL_law) 420 = some (.invokestatic 172, 3) := by decide +kernel
theorem gL_law_423 : zget (zMt mL_law) 423 = some (.iadd, 1) := by decide +kernel
theorem gL_law_424 : zget (zMt mL_law) 424 = some (.invokestatic 181, 3) := by decide +kernel
theorem gL_law_427 : zget (zMt mL_law) 427 = some (.istore 9, 2) := by decide +kernel
theorem gL_law_429 : zget (zMt mL_law) 429 = some (.aload_n 1, 1) := by decide +kernel
theorem gL_law_430 : zget (zMt mL_law) 430 = some (.iconst 4, 1) := by decide +kernel
theorem gL_law_431 : zget (zMt mL_law) 431 = some (.aload_n 0, 1) := by decide +kernel
theorem gL_law_432 : zget (zMt mL_law) 432 = some (.iload 5, 2) := by decide +kernel
theorem gL_law_434 : zget (zMt mL_law) 434 = some (.iconst 3, 1) := by decide +kernel
theorem gL_law_435 : zget (zMt mL_law) 435 = some (.iadd, 1) := by decide +kernel
theorem gL_law_436 : zget (zMt mL_law) 436 = some (.iconst 2, 1) := by decide +kernel
theorem gL_law_437 : zget (zMt mL_law) 437 = some (.invokestatic 172, 3) := by decide +kernel
theorem gL_law_440 : zget (zMt mL_law) 440 = some (.iadd, 1) := by decide +kernel
theorem gL_law_441 : zget (zMt mL_law) 441 = some (.iload 8, 2) := by decide +kernel
theorem gL_law_443 : zget (zMt mL_law) 443 = some (.iload 9, 2) := by decide +kernel
theorem gL_law_445 : zget (zMt mL_law) 445 = some (.invokestatic 158, 3) := by decide +kernel
theorem gL_law_448 : zget (zMt mL_law) 448 = some (.istore 10, 2) := by decide +kernel
theorem gL_law_450 : zget (zMt mL_law) 450 = some (.iload 10, 2) := by decide +kernel
theorem gL_law_452 : zget (zMt mL_law) 452 = some (.ifCond .lt 26, 3) := by decide +kernel
theorem gL_law_455 : zget (zMt mL_law) 455 = some (.iload 10, 2) := by decide +kernel
theorem gL_law_457 : zget (zMt mL_law) 457 = some (.iload 9, 2) := by decide +kernel
theorem gL_law_459 : zget (zMt mL_law) 459 = some (.iload 8, 2) := by decide +kernel
theorem gL_law_461 : zget (zMt mL_law) 461 = some (.isub, 1) := by decide +kernel
theorem gL_law_462 : zget (zMt mL_law) 462 = some (.iconst 1, 1) := by decide +kernel
theorem gL_law_463 : zget (zMt mL_law) 463 = some (.iadd, 1) := by decide +kernel
theorem gL_law_464 : zget (zMt mL_law) 464 = some (.if_icmp .gt 14, 3) := by decide +kernel
theorem gL_law_467 : zget (zMt mL_law) 467 = some (.aload_n 1, 1) := by decide +kernel
theorem gL_law_468 : zget (zMt mL_law) 468 = some (.invokevirtual 154, 3) := by decide +kernel
theorem gL_law_471 : zget (zMt mL_law) 471 = some (.ifCond .ne 7, 3) := by decide +kernel
theorem gL_law_474 : zget (zMt mL_law) 474 = some (.iconst 1, 1) := by decide +kernel
theorem gL_law_475 : zget (zMt mL_law) 475 = some (.goto 4, 3) := by decide +kernel
theorem gL_law_478 : zget (zMt mL_law) 478 = some (.iconst 0, 1) := by decide +kernel
theorem gL_law_479 : zget (zMt mL_law) 479 = some (.istore_n 3, 1) := by decide +kernel
theorem gL_law_480 : zget (zMt mL_law) 480 = some (.goto 107, 3) := by decide +kernel
theorem gL_law_483 : zget (zMt mL_law) 483 = some (.iload 7, 2) := by decide +kernel
theorem gL_law_485 : zget (zMt mL_law) 485 = some (.iconst 5, 1) := by decide +kernel
theorem gL_law_486 : zget (zMt mL_law) 486 = some (.if_icmp .ne 49, 3) := by decide +kernel
theorem gL_law_489 : zget (zMt mL_law) 489 = some (.iload_n 2, 1) := by decide +kernel
theorem gL_law_490 : zget (zMt mL_law) 490 = some (.istore 8, 2) := by decide +kernel
theorem gL_law_492 : zget (zMt mL_law) 492 = some (.bipush 13, 2) := by decide +kernel
theorem gL_law_494 : zget (zMt mL_law) 494 = some (.aload_n 0, 1) := by decide +kernel
theorem gL_law_495 : zget (zMt mL_law) 495 = some (.iload 5, 2) := by decide +kernel
theorem gL_law_497 : zget (zMt mL_law) 497 = some (.iconst 1, 1) := by decide +kernel
theorem gL_law_498 : zget (zMt mL_law) 498 = some (.iadd, 1) := by decide +kernel
theorem gL_law_499 : zget (zMt mL_law) 499 = some (.bipush 48, 2) := by decide +kernel
theorem gL_law_501 : zget (zMt mL_law) 501 = some (.invokestatic 172, 3) := by decide +kernel
theorem gL_law_504 : zget (zMt mL_law) 504 = some (.iadd, 1) := by decide +kernel
theorem gL_law_505 : zget (zMt mL_law) 505 = some (.istore_n 2, 1) := by decide +kernel
theorem gL_law_506 : zget (zMt mL_law) 506 = some (.aload_n 1, 1) := by decide +kernel
theorem gL_law_507 : zget (zMt mL_law) 507 = some (.bipush 11, 2) := by decide +kernel
theorem gL_law_509 : zget (zMt mL_law) 509 = some (.iload_n 2, 1) := by decide +kernel
theorem gL_law_510 : zget (zMt mL_law) 510 = some (.iconst 0, 1) := by decide +kernel
theorem gL_law_511 : zget (zMt mL_law) 511 = some (.invokestatic 158, 3) := by decide +kernel
theorem gL_law_514 : zget (zMt mL_law) 514 = some (.iload 8, 2) := by decide +kernel
theorem gL_law_516 : zget (zMt mL_law) 516 = some (.if_icmp .ne 14, 3) := by decide +kernel
theorem gL_law_519 : zget (zMt mL_law) 519 = some (.aload_n 1, 1) := by decide +kernel
theorem gL_law_520 : zget (zMt mL_law) 520 = some (.invokevirtual 154, 3) := by decide +kernel
theorem gL_law_523 : zget (zMt mL_law) 523 = some (.ifCond .ne 7, 3) := by decide +kernel
theorem gL_law_526 : zget (zMt mL_law) 526 = some (.iconst 1, 1) := by decide +kernel
theorem gL_law_527 : zget (zMt mL_law) 527 = some (.goto 4, 3) := by decide +kernel
theorem gL_law_530 : zget (zMt mL_law) 530 = some (.iconst 0, 1) := by decide +kernel
theorem gL_law_531 : zget (zMt mL_law) 531 = some (.istore_n 3, 1) := by decide +kernel
theorem gL_law_532 : zget (zMt mL_law) 532 = some (.goto 55, 3) := by decide +kernel
theorem gL_law_535 : zget (zMt mL_law) 535 = some (.iload 7, 2) := by decide +kernel
theorem gL_law_537 : zget (zMt mL_law) 537 = some (.bipush 6, 2) := by decide +kernel
theorem gL_law_539 : zget (zMt mL_law) 539 = some (.if_icmp .ne 38, 3) := by decide +kernel
theorem gL_law_542 : zget (zMt mL_law) 542 = some (.aload_n 1, 1) := by decide +kernel
theorem gL_law_543 : zget (zMt mL_law) 543 = some (.bipush 12, 2) := by decide +kernel
theorem gL_law_545 : zget (zMt mL_law) 545 = some (.iconst 0, 1) := by decide +kernel
theorem gL_law_546 : zget (zMt mL_law) 546 = some (.iconst 0, 1) := by decide +kernel
theorem gL_law_547 : zget (zMt mL_law) 547 = some (.invokestatic 158, 3) := by decide +kernel
theorem gL_law_550 : zget (zMt mL_law) 550 = some (.ifCond .lt 22, 3) := by decide +kernel
theorem gL_law_553 : zget (zMt mL_law) 553 = some (.aload_n 1, 1) := by decide +kernel
theorem gL_law_554 : zget (zMt mL_law) 554 = some (.invokevirtual 154, 3) := by decide +kernel
theorem gL_law_557 : zget (zMt mL_law) 557 = some (.ifCond .eq 15, 3) := by decide +kernel
theorem gL_law_560 : zget (zMt mL_law) 560 = some (.aload_n 1, 1) := by decide +kernel
theorem gL_law_561 : zget (zMt mL_law) 561 = some (.iload_n 2, 1) := by decide +kernel
theorem gL_law_562 : zget (zMt mL_law) 562 = some (.invokestatic 186, 3) := by decide +kernel
theorem gL_law_565 : zget (zMt mL_law) 565 = some (.ifCond .eq 7, 3) := by decide +kernel
theorem gL_law_568 : zget (zMt mL_law) 568 = some (.iconst 1, 1) := by decide +kernel
theorem gL_law_569 : zget (zMt mL_law) 569 = some (.goto 4, 3) := by decide +kernel
theorem gL_law_572 : zget (zMt mL_law) 572 = some (.iconst 0, 1) := by decide +kernel
theorem gL_law_573 : zget (zMt mL_law) 573 = some (.istore_n 3, 1) := by decide +kernel
theorem gL_law_574 : zget (zMt mL_law) 574 = some (.goto 13, 3) := by decide +kernel
theorem gL_law_577 : zget (zMt mL_law) 577 = some (.aload_n 1, 1) := by decide +kernel
theorem gL_law_578 : zget (zMt mL_law) 578 = some (.aload_n 0, 1) := by decide +kernel
theorem gL_law_579 : zget (zMt mL_law) 579 = some (.iload 5, 2) := by decide +kernel
theorem gL_law_581 : zget (zMt mL_law) 581 = some (.iconst 1, 1) := by decide +kernel
theorem gL_law_582 : zget (zMt mL_law) 582 = some (.iadd, 1) := by decide +kernel
theorem gL_law_583 : zget (zMt mL_law) 583 = some (.invokestatic 190, 3) := by decide +kernel
theorem gL_law_586 : zget (zMt mL_law) 586 = some (.istore_n 3, 1) := by decide +kernel
theorem gL_law_587 : zget (zMt mL_law) 587 = some (.iload_n 3, 1) := by decide +kernel
theorem gL_law_588 : zget (zMt mL_law) 588 = some (.ifCond .eq 45, 3) := by decide +kernel
theorem gL_law_591 : zget (zMt mL_law) 591 = some (.iload 4, 2) := by decide +kernel
theorem gL_law_593 : zget (zMt mL_law) 593 = some (.bipush 6, 2) := by decide +kernel
theorem gL_law_595 : zget (zMt mL_law) 595 = some (.irem, 1) := by decide +kernel
theorem gL_law_596 : zget (zMt mL_law) 596 = some (.iconst 5, 1) := by decide +kernel
theorem gL_law_597 : zget (zMt mL_law) 597 = some (.if_icmp .ne 32, 3) := by decide +kernel
theorem gL_law_600 : zget (zMt mL_law) 600 = some (.aload_n 1, 1) := by decide +kernel
theorem gL_law_601 : zget (zMt mL_law) 601 = some (.invokestatic 194, 3) := by decide +kernel
theorem gL_law_604 : zget (zMt mL_law) 604 = some (.ifCond .eq 29, 3) := by decide +kernel
theorem gL_law_607 : zget (zMt mL_law) 607 = some (.aload_n 1, 1) := by decide +kernel
theorem gL_law_608 : zget (zMt mL_law) 608 = some (.invokestatic 198, 3) := by decide +kernel
theorem gL_law_611 : zget (zMt mL_law) 611 = some (.ifCond .eq 22, 3) := by decide +kernel
theorem gL_law_614 : zget (zMt mL_law) 614 = some (.aload_n 1, 1) := by decide +kernel
theorem gL_law_615 : zget (zMt mL_law) 615 = some (.iload_n 2, 1) := by decide +kernel
theorem gL_law_616 : zget (zMt mL_law) 616 = some (.invokestatic 186, 3) := by decide +kernel
theorem gL_law_619 : zget (zMt mL_law) 619 = some (.ifCond .eq 14, 3) := by decide +kernel
theorem gL_law_622 : zget (zMt mL_law) 622 = some (.aload_n 1, 1) := by decide +kernel
theorem gL_law_623 : zget (zMt mL_law) 623 = some (.invokestatic 201, 3) := by decide +kernel
theorem gL_law_626 : zget (zMt mL_law) 626 = some (.ifCond .eq 7, 3) := by decide +kernel
theorem gL_law_629 : zget (zMt mL_law) 629 = some (.iconst 1, 1) := by decide +kernel
theorem gL_law_630 : zget (zMt mL_law) 630 = some (.goto 4, 3) := by decide +kernel
theorem gL_law_633 : zget (zMt mL_law) 633 = some (.iconst 0, 1) := by decide +kernel
theorem gL_law_634 : zget (zMt mL_law) 634 = some (.istore_n 3, 1) := by decide +kernel
theorem gL_law_635 : zget (zMt mL_law) 635 = some (.iinc 4 1, 3) := by decide +kernel
theorem gL_law_638 : zget (zMt mL_law) 638 = some (.goto (-565), 3) := by decide +kernel
theorem gL_law_641 : zget (zMt mL_law) 641 = some (.iload_n 3, 1) := by decide +kernel
theorem gL_law_642 : zget (zMt mL_law) 642 = some (.ireturn, 1) := by decide +kernel
