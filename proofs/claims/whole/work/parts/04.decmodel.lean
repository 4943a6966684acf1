theorem dM_init_0 : decode bM_init 0 = .ok (.aload_n 0, 1) := by decide +kernel
theorem dM_init_1 : decode bM_init 1 = .ok (.invokespecial 1, 3) := by decide +kernel
theorem dM_init_4 : decode bM_init 4 = .ok (.aload_n 0, 1) := by decide +kernel
theorem dM_init_5 : decode bM_init 5 = .ok (.bipush 30, 2) := by decide +kernel
theorem dM_init_7 : decode bM_init 7 = .ok (.newarray .int, 2) := by decide +kernel
theorem dM_init_9 : decode bM_init 9 = .ok (.putfield 7, 3) := by decide +kernel
theorem dM_init_12 : decode bM_init 12 = .ok (.aload_n 0, 1) := by decide +kernel
theorem dM_init_13 : decode bM_init 13 = .ok (.bipush 30, 2) := by decide +kernel
theorem dM_init_15 : decode bM_init 15 = .ok (.newarray .int, 2) := by decide +kernel
theorem dM_init_17 : decode bM_init 17 = .ok (.putfield 13, 3) := by decide +kernel
theorem dM_init_20 : decode bM_init 20 = .ok (.aload_n 0, 1) := by decide +kernel
theorem dM_init_21 : decode bM_init 21 = .ok (.bipush 30, 2) := by decide +kernel
theorem dM_init_23 : decode bM_init 23 = .ok (.newarray .int, 2) := by decide +kernel
theorem dM_init_25 : decode bM_init 25 = .ok (.putfield 16, 3) := by decide +kernel
theorem dM_init_28 : decode bM_init 28 = .ok (.aload_n 0, 1) := by decide +kernel
theorem dM_init_29 : decode bM_init 29 = .ok (.bipush 30, 2) := by decide +kernel
theorem dM_init_31 : decode bM_init 31 = .ok (.newarray .int, 2) := by decide +kernel
theorem dM_init_33 : decode bM_init 33 = .ok (.putfield 19, 3) := by decide +kernel
theorem dM_init_36 : decode bM_init 36 = .ok (.aload_n 0, 1) := by decide +kernel
theorem dM_init_37 : decode bM_init 37 = .ok (.bipush 30, 2) := by decide +kernel
theorem dM_init_39 : decode bM_init 39 = .ok (.newarray .long, 2) := by decide +kernel
theorem dM_init_41 : decode bM_init 41 = .ok (.putfield 22, 3) := by decide +kernel
theorem dM_init_44 : decode bM_init 44 = .ok (.aload_n 0, 1) := by decide +kernel
theorem dM_init_45 : decode bM_init 45 = .ok (.bipush 30, 2) := by decide +kernel
theorem dM_init_47 : decode bM_init 47 = .ok (.newarray .long, 2) := by decide +kernel
theorem dM_init_49 : decode bM_init 49 = .ok (.putfield 26, 3) := by decide +kernel
theorem dM_init_52 : decode bM_init 52 = .ok (.aload_n 0, 1) := by decide +kernel
theorem dM_init_53 : decode bM_init 53 = .ok (.bipush 30, 2) := by decide +kernel
theorem dM_init_55 : decode bM_init 55 = .ok (.newarray .long, 2) := by decide +kernel
theorem dM_init_57 : decode bM_init 57 = .ok (.putfield 29, 3) := by decide +kernel
theorem dM_init_60 : decode bM_init 60 = .ok (.aload_n 0, 1) := by decide +kernel
theorem dM_init_61 : decode bM_init 61 = .ok (.iconst 1, 1) := by decide +kernel
theorem dM_init_62 : decode bM_init 62 = .ok (.putfield 32, 3) := by decide +kernel
theorem dM_init_65 : decode bM_init 65 = .ok (.aload_n 0, 1) := by decide +kernel
theorem dM_init_66 : decode bM_init 66 = .ok (.bipush 12, 2) := by decide +kernel
theorem dM_init_68 : decode bM_init 68 = .ok (.newarray .int, 2) := by decide +kernel
theorem dM_init_70 : decode bM_init 70 = .ok (.putfield 36, 3) := by decide +kernel
theorem dM_init_73 : decode bM_init 73 = .ok (.aload_n 0, 1) := by decide +kernel
theorem dM_init_74 : decode bM_init 74 = .ok (.bipush 12, 2) := by decide +kernel
theorem dM_init_76 : decode bM_init 76 = .ok (.newarray .int, 2) := by decide +kernel
theorem dM_init_78 : decode bM_init 78 = .ok (.putfield 39, 3) := by decide +kernel
theorem dM_init_81 : decode bM_init 81 = .ok (.aload_n 0, 1) := by decide +kernel
theorem dM_init_82 : decode bM_init 82 = .ok (.bipush 20, 2) := by decide +kernel
theorem dM_init_84 : decode bM_init 84 = .ok (.newarray .int, 2) := by decide +kernel
theorem dM_init_86 : decode bM_init 86 = .ok (.putfield 42, 3) := by decide +kernel
theorem dM_init_89 : decode bM_init 89 = .ok (.aload_n 0, 1) := by decide +kernel
theorem dM_init_90 : decode bM_init 90 = .ok (.bipush 20, 2) := by decide +kernel
theorem dM_init_92 : decode bM_init 92 = .ok (.newarray .long, 2) := by decide +kernel
theorem dM_init_94 : decode bM_init 94 = .ok (.putfield 45, 3) := by decide +kernel
theorem dM_init_97 : decode bM_init 97 = .ok (.aload_n 0, 1) := by decide +kernel
theorem dM_init_98 : decode bM_init 98 = .ok (.sipush 401, 3) := by decide +kernel
theorem dM_init_101 : decode bM_init 101 = .ok (.newarray .long, 2) := by decide +kernel
theorem dM_init_103 : decode bM_init 103 = .ok (.putfield 48, 3) := by decide +kernel
theorem dM_init_106 : decode bM_init 106 = .ok (.aload_n 0, 1) := by decide +kernel
theorem dM_init_107 : decode bM_init 107 = .ok (.bipush 31, 2) := by decide +kernel
theorem dM_init_109 : decode bM_init 109 = .ok (.newarray .long, 2) := by decide +kernel
theorem dM_init_111 : decode bM_init 111 = .ok (.putfield 51, 3) := by decide +kernel
theorem dM_init_114 : decode bM_init 114 = .ok (.aload_n 0, 1) := by decide +kernel
theorem dM_init_115 : decode bM_init 115 = .ok (.bipush 92, 2) := by decide +kernel
theorem dM_init_117 : decode bM_init 117 = .ok (.newarray .long, 2) := by decide +kernel
theorem dM_init_119 : decode bM_init 119 = .ok (.putfield 54, 3) := by decide +kernel
theorem dM_init_122 : decode bM_init 122 = .ok (.return_, 1) := by decide +kernel
theorem dM_layer_0 : decode bM_layer 0 = .ok (.iload_n 1, 1) := by decide +kernel
theorem dM_layer_1 : decode bM_layer 1 = .ok (.i2l, 1) := by decide +kernel
theorem dM_layer_2 : decode bM_layer 2 = .ok (.lconst 1, 1) := by decide +kernel
theorem dM_layer_3 : decode bM_layer 3 = .ok (.ldc2_w 57, 3) := by decide +kernel
theorem dM_layer_6 : decode bM_layer 6 = .ok (.invokestatic 59, 3) := by decide +kernel
theorem dM_layer_9 : decode bM_layer 9 = .ok (.ifCond .eq 63, 3) := by decide +kernel
theorem dM_layer_12 : decode bM_layer 12 = .ok (.iload_n 2, 1) := by decide +kernel
theorem dM_layer_13 : decode bM_layer 13 = .ok (.i2l, 1) := by decide +kernel
theorem dM_layer_14 : decode bM_layer 14 = .ok (.lconst 0, 1) := by decide +kernel
theorem dM_layer_15 : decode bM_layer 15 = .ok (.ldc2_w 63, 3) := by decide +kernel
theorem dM_layer_18 : decode bM_layer 18 = .ok (.invokestatic 59, 3) := by decide +kernel
theorem dM_layer_21 : decode bM_layer 21 = .ok (.ifCond .eq 51, 3) := by decide +kernel
theorem dM_layer_24 : decode bM_layer 24 = .ok (.iload_n 3, 1) := by decide +kernel
theorem dM_layer_25 : decode bM_layer 25 = .ok (.i2l, 1) := by decide +kernel
theorem dM_layer_26 : decode bM_layer 26 = .ok (.lconst 0, 1) := by decide +kernel
theorem dM_layer_27 : decode bM_layer 27 = .ok (.ldc2_w 65, 3) := by decide +kernel
theorem dM_layer_30 : decode bM_layer 30 = .ok (.invokestatic 59, 3) := by decide +kernel
theorem dM_layer_33 : decode bM_layer 33 = .ok (.ifCond .eq 39, 3) := by decide +kernel
theorem dM_layer_36 : decode bM_layer 36 = .ok (.iload 4, 2) := by decide +kernel
theorem dM_layer_38 : decode bM_layer 38 = .ok (.i2l, 1) := by decide +kernel
theorem dM_layer_39 : decode bM_layer 39 = .ok (.lconst 0, 1) := by decide +kernel
theorem dM_layer_40 : decode bM_layer 40 = .ok (.ldc2_w 65, 3) := by decide +kernel
theorem dM_layer_43 : decode bM_layer 43 = .ok (.invokestatic 59, 3) := by decide +kernel
theorem dM_layer_46 : decode bM_layer 46 = .ok (.ifCond .eq 26, 3) := by decide +kernel
theorem dM_layer_49 : decode bM_layer 49 = .ok (.iload 5, 2) := by decide +kernel
theorem dM_layer_51 : decode bM_layer 51 = .ok (.i2l, 1) := by decide +kernel
theorem dM_layer_52 : decode bM_layer 52 = .ok (.lconst 0, 1) := by decide +kernel
theorem dM_layer_53 : decode bM_layer 53 = .ok (.ldc2_w 67, 3) := by decide +kernel
theorem dM_layer_56 : decode bM_layer 56 = .ok (.invokestatic 59, 3) := by decide +kernel
theorem dM_layer_59 : decode bM_layer 59 = .ok (.ifCond .eq 13, 3) := by decide +kernel
theorem dM_layer_62 : decode bM_layer 62 = .ok (.iload 4, 2) := by decide +kernel
theorem dM_layer_64 : decode bM_layer 64 = .ok (.iload_n 3, 1) := by decide +kernel
theorem dM_layer_65 : decode bM_layer 65 = .ok (.if_icmp .lt 7, 3) := by decide +kernel
theorem dM_layer_68 : decode bM_layer 68 = .ok (.iconst 1, 1) := by decide +kernel
theorem dM_layer_69 : decode bM_layer 69 = .ok (.goto 4, 3) := by decide +kernel
theorem dM_layer_72 : decode bM_layer 72 = .ok (.iconst 0, 1) := by decide +kernel
theorem dM_layer_73 : decode bM_layer 73 = .ok (.istore 6, 2) := by decide +kernel
theorem dM_layer_75 : decode bM_layer 75 = .ok (.iload 6, 2) := by decide +kernel
theorem dM_layer_77 : decode bM_layer 77 = .ok (.ifCond .eq 28, 3) := by decide +kernel
theorem dM_layer_80 : decode bM_layer 80 = .ok (.aload_n 0, 1) := by decide +kernel
theorem dM_layer_81 : decode bM_layer 81 = .ok (.getfield 69, 3) := by decide +kernel
theorem dM_layer_84 : decode bM_layer 84 = .ok (.iload_n 1, 1) := by decide +kernel
theorem dM_layer_85 : decode bM_layer 85 = .ok (.iadd, 1) := by decide +kernel
theorem dM_layer_86 : decode bM_layer 86 = .ok (.bipush 30, 2) := by decide +kernel
theorem dM_layer_88 : decode bM_layer 88 = .ok (.if_icmp .gt 17, 3) := by decide +kernel
theorem dM_layer_91 : decode bM_layer 91 = .ok (.aload_n 0, 1) := by decide +kernel
theorem dM_layer_92 : decode bM_layer 92 = .ok (.getfield 73, 3) := by decide +kernel
theorem dM_layer_95 : decode bM_layer 95 = .ok (.ifCond .gt 10, 3) := by decide +kernel
theorem dM_layer_98 : decode bM_layer 98 = .ok (.aload_n 0, 1) := by decide +kernel
theorem dM_layer_99 : decode bM_layer 99 = .ok (.getfield 76, 3) := by decide +kernel
theorem dM_layer_102 : decode bM_layer 102 = .ok (.ifCond .le 5, 3) := by decide +kernel
theorem dM_layer_105 : decode bM_layer 105 = .ok (.iconst (-1), 1) := by decide +kernel
theorem dM_layer_106 : decode bM_layer 106 = .ok (.ireturn, 1) := by decide +kernel
theorem dM_layer_107 : decode bM_layer 107 = .ok (.iconst 0, 1) := by decide +kernel
theorem dM_layer_108 : decode bM_layer 108 = .ok (.istore 7, 2) := by decide +kernel
theorem dM_layer_110 : decode bM_layer 110 = .ok (.iload 7, 2) := by decide +kernel
theorem dM_layer_112 : decode bM_layer 112 = .ok (.iload_n 1, 1) := by decide +kernel
theorem dM_layer_113 : decode bM_layer 113 = .ok (.if_icmp .ge 75, 3) := by decide +kernel
theorem dM_layer_116 : decode bM_layer 116 = .ok (.aload_n 0, 1) := by decide +kernel
theorem dM_layer_117 : decode bM_layer 117 = .ok (.getfield 7, 3) := by decide +kernel
theorem dM_layer_120 : decode bM_layer 120 = .ok (.aload_n 0, 1) := by decide +kernel
theorem dM_layer_121 : decode bM_layer 121 = .ok (.getfield 69, 3) := by decide +kernel
theorem dM_layer_124 : decode bM_layer 124 = .ok (.aload_n 0, 1) := by decide +kernel
theorem dM_layer_125 : decode bM_layer 125 = .ok (.getfield 79, 3) := by decide +kernel
theorem dM_layer_128 : decode bM_layer 128 = .ok (.iastore, 1) := by decide +kernel
theorem dM_layer_129 : decode bM_layer 129 = .ok (.aload_n 0, 1) := by decide +kernel
theorem dM_layer_130 : decode bM_layer 130 = .ok (.getfield 13, 3) := by decide +kernel
theorem dM_layer_133 : decode bM_layer 133 = .ok (.aload_n 0, 1) := by decide +kernel
theorem dM_layer_134 : decode bM_layer 134 = .ok (.getfield 69, 3) := by decide +kernel
theorem dM_layer_137 : decode bM_layer 137 = .ok (.iload_n 2, 1) := by decide +kernel
theorem dM_layer_138 : decode bM_layer 138 = .ok (.iastore, 1) := by decide +kernel
theorem dM_layer_139 : decode bM_layer 139 = .ok (.aload_n 0, 1) := by decide +kernel
theorem dM_layer_140 : decode bM_layer 140 = .ok (.getfield 16, 3) := by decide +kernel
theorem dM_layer_143 : decode bM_layer 143 = .ok (.aload_n 0, 1) := by decide +kernel
theorem dM_layer_144 : decode bM_layer 144 = .ok (.getfield 69, 3) := by decide +kernel
theorem dM_layer_147 : decode bM_layer 147 = .ok (.iload_n 3, 1) := by decide +kernel
theorem dM_layer_148 : decode bM_layer 148 = .ok (.iastore, 1) := by decide +kernel
theorem dM_layer_149 : decode bM_layer 149 = .ok (.aload_n 0, 1) := by decide +kernel
theorem dM_layer_150 : decode bM_layer 150 = .ok (.getfield 19, 3) := by decide +kernel
theorem dM_layer_153 : decode bM_layer 153 = .ok (.aload_n 0, 1) := by decide +kernel
theorem dM_layer_154 : decode bM_layer 154 = .ok (.getfield 69, 3) := by decide +kernel
theorem dM_layer_157 : decode bM_layer 157 = .ok (.iload 4, 2) := by decide +kernel
theorem dM_layer_159 : decode bM_layer 159 = .ok (.iastore, 1) := by decide +kernel
theorem dM_layer_160 : decode bM_layer 160 = .ok (.aload_n 0, 1) := by decide +kernel
theorem dM_layer_161 : decode bM_layer 161 = .ok (.getfield 26, 3) := by decide +kernel
theorem dM_layer_164 : decode bM_layer 164 = .ok (.aload_n 0, 1) := by decide +kernel
theorem dM_layer_165 : decode bM_layer 165 = .ok (.getfield 69, 3) := by decide +kernel
theorem dM_layer_168 : decode bM_layer 168 = .ok (.iload 5, 2) := by decide +kernel
theorem dM_layer_170 : decode bM_layer 170 = .ok (.i2l, 1) := by decide +kernel
theorem dM_layer_171 : decode bM_layer 171 = .ok (.lastore, 1) := by decide +kernel
theorem dM_layer_172 : decode bM_layer 172 = .ok (.aload_n 0, 1) := by decide +kernel
theorem dM_layer_173 : decode bM_layer 173 = .ok (.dup, 1) := by decide +kernel
theorem dM_layer_174 : decode bM_layer 174 = .ok (.getfield 69, 3) := by decide +kernel
theorem dM_layer_177 : decode bM_layer 177 = .ok (.iconst 1, 1) := by decide +kernel
theorem dM_layer_178 : decode bM_layer 178 = .ok (.iadd, 1) := by decide +kernel
theorem dM_layer_179 : decode bM_layer 179 = .ok (.putfield 69, 3) := by decide +kernel
theorem dM_layer_182 : decode bM_layer 182 = .ok (.iinc 7 1, 3) := by decide +kernel
theorem dM_layer_185 : decode bM_layer 185 = .ok (.goto (-75), 3) := by decide +kernel
theorem dM_layer_188 : decode bM_layer 188 = .ok (.aload_n 0, 1) := by decide +kernel
theorem dM_layer_189 : decode bM_layer 189 = .ok (.dup, 1) := by decide +kernel
theorem dM_layer_190 : decode bM_layer 190 = .ok (.getfield 79, 3) := by decide +kernel
theorem dM_layer_193 : decode bM_layer 193 = .ok (.iconst 1, 1) := by decide +kernel
theorem dM_layer_194 : decode bM_layer 194 = .ok (.iadd, 1) := by decide +kernel
theorem dM_layer_195 : decode bM_layer 195 = .ok (.putfield 79, 3) := by decide +kernel
theorem dM_layer_198 : decode bM_layer 198 = .ok (.aload_n 0, 1) := by decide +kernel
theorem dM_layer_199 : decode bM_layer 199 = .ok (.getfield 79, 3) := by decide +kernel
theorem dM_layer_202 : decode bM_layer 202 = .ok (.iconst 1, 1) := by decide +kernel
theorem dM_layer_203 : decode bM_layer 203 = .ok (.isub, 1) := by decide +kernel
theorem dM_layer_204 : decode bM_layer 204 = .ok (.ireturn, 1) := by decide +kernel
theorem dM_in_0 : decode bM_in 0 = .ok (.lload_n 0, 1) := by decide +kernel
theorem dM_in_1 : decode bM_in 1 = .ok (.lload_n 2, 1) := by decide +kernel
theorem dM_in_2 : decode bM_in 2 = .ok (.lcmp, 1) := by decide +kernel
theorem dM_in_3 : decode bM_in 3 = .ok (.ifCond .lt 14, 3) := by decide +kernel
theorem dM_in_6 : decode bM_in 6 = .ok (.lload_n 0, 1) := by decide +kernel
theorem dM_in_7 : decode bM_in 7 = .ok (.lload 4, 2) := by decide +kernel
theorem dM_in_9 : decode bM_in 9 = .ok (.lcmp, 1) := by decide +kernel
theorem dM_in_10 : decode bM_in 10 = .ok (.ifCond .gt 7, 3) := by decide +kernel
theorem dM_in_13 : decode bM_in 13 = .ok (.iconst 1, 1) := by decide +kernel
theorem dM_in_14 : decode bM_in 14 = .ok (.goto 4, 3) := by decide +kernel
theorem dM_in_17 : decode bM_in 17 = .ok (.iconst 0, 1) := by decide +kernel
theorem dM_in_18 : decode bM_in 18 = .ok (.ireturn, 1) := by decide +kernel
theorem dM_drains_0 : decode bM_drains 0 = .ok (.iload_n 3, 1) := by decide +kernel
theorem dM_drains_1 : decode bM_drains 1 = .ok (.i2l, 1) := by decide +kernel
theorem dM_drains_2 : decode bM_drains 2 = .ok (.lconst 0, 1) := by decide +kernel
theorem dM_drains_3 : decode bM_drains 3 = .ok (.ldc2_w 82, 3) := by decide +kernel
theorem dM_drains_6 : decode bM_drains 6 = .ok (.invokestatic 59, 3) := by decide +kernel
theorem dM_drains_9 : decode bM_drains 9 = .ok (.ifCond .ne 5, 3) := by decide +kernel
theorem dM_drains_12 : decode bM_drains 12 = .ok (.iconst 0, 1) := by decide +kernel
theorem dM_drains_13 : decode bM_drains 13 = .ok (.ireturn, 1) := by decide +kernel
theorem dM_drains_14 : decode bM_drains 14 = .ok (.aload_n 0, 1) := by decide +kernel
theorem dM_drains_15 : decode bM_drains 15 = .ok (.iload_n 1, 1) := by decide +kernel
theorem dM_drains_16 : decode bM_drains 16 = .ok (.putfield 32, 3) := by decide +kernel
theorem dM_drains_19 : decode bM_drains 19 = .ok (.aload_n 0, 1) := by decide +kernel
theorem dM_drains_20 : decode bM_drains 20 = .ok (.iload_n 2, 1) := by decide +kernel
theorem dM_drains_21 : decode bM_drains 21 = .ok (.putfield 84, 3) := by decide +kernel
theorem dM_drains_24 : decode bM_drains 24 = .ok (.aload_n 0, 1) := by decide +kernel
theorem dM_drains_25 : decode bM_drains 25 = .ok (.iload_n 3, 1) := by decide +kernel
theorem dM_drains_26 : decode bM_drains 26 = .ok (.putfield 87, 3) := by decide +kernel
theorem dM_drains_29 : decode bM_drains 29 = .ok (.iconst 1, 1) := by decide +kernel
theorem dM_drains_30 : decode bM_drains 30 = .ok (.ireturn, 1) := by decide +kernel
theorem dM_load_0 : decode bM_load 0 = .ok (.iload_n 1, 1) := by decide +kernel
theorem dM_load_1 : decode bM_load 1 = .ok (.i2l, 1) := by decide +kernel
theorem dM_load_2 : decode bM_load 2 = .ok (.aload_n 0, 1) := by decide +kernel
theorem dM_load_3 : decode bM_load 3 = .ok (.getfield 73, 3) := by decide +kernel
theorem dM_load_6 : decode bM_load 6 = .ok (.i2l, 1) := by decide +kernel
theorem dM_load_7 : decode bM_load 7 = .ok (.ldc2_w 90, 3) := by decide +kernel
theorem dM_load_10 : decode bM_load 10 = .ok (.invokestatic 59, 3) := by decide +kernel
theorem dM_load_13 : decode bM_load 13 = .ok (.ifCond .eq 24, 3) := by decide +kernel
theorem dM_load_16 : decode bM_load 16 = .ok (.iload_n 2, 1) := by decide +kernel
theorem dM_load_17 : decode bM_load 17 = .ok (.i2l, 1) := by decide +kernel
theorem dM_load_18 : decode bM_load 18 = .ok (.lconst 1, 1) := by decide +kernel
theorem dM_load_19 : decode bM_load 19 = .ok (.ldc2_w 92, 3) := by decide +kernel
theorem dM_load_22 : decode bM_load 22 = .ok (.invokestatic 59, 3) := by decide +kernel
theorem dM_load_25 : decode bM_load 25 = .ok (.ifCond .eq 12, 3) := by decide +kernel
theorem dM_load_28 : decode bM_load 28 = .ok (.aload_n 0, 1) := by decide +kernel
theorem dM_load_29 : decode bM_load 29 = .ok (.getfield 76, 3) := by decide +kernel
theorem dM_load_32 : decode bM_load 32 = .ok (.bipush 12, 2) := by decide +kernel
theorem dM_load_34 : decode bM_load 34 = .ok (.if_icmp .ne 5, 3) := by decide +kernel
theorem dM_load_37 : decode bM_load 37 = .ok (.iconst (-1), 1) := by decide +kernel
theorem dM_load_38 : decode bM_load 38 = .ok (.ireturn, 1) := by decide +kernel
theorem dM_load_39 : decode bM_load 39 = .ok (.aload_n 0, 1) := by decide +kernel
theorem dM_load_40 : decode bM_load 40 = .ok (.getfield 36, 3) := by decide +kernel
theorem dM_load_43 : decode bM_load 43 = .ok (.aload_n 0, 1) := by decide +kernel
theorem dM_load_44 : decode bM_load 44 = .ok (.getfield 76, 3) := by decide +kernel
theorem dM_load_47 : decode bM_load 47 = .ok (.iload_n 1, 1) := by decide +kernel
theorem dM_load_48 : decode bM_load 48 = .ok (.iastore, 1) := by decide +kernel
theorem dM_load_49 : decode bM_load 49 = .ok (.aload_n 0, 1) := by decide +kernel
theorem dM_load_50 : decode bM_load 50 = .ok (.getfield 39, 3) := by decide +kernel
theorem dM_load_53 : decode bM_load 53 = .ok (.aload_n 0, 1) := by decide +kernel
theorem dM_load_54 : decode bM_load 54 = .ok (.getfield 76, 3) := by decide +kernel
theorem dM_load_57 : decode bM_load 57 = .ok (.iload_n 2, 1) := by decide +kernel
theorem dM_load_58 : decode bM_load 58 = .ok (.iastore, 1) := by decide +kernel
theorem dM_load_59 : decode bM_load 59 = .ok (.aload_n 0, 1) := by decide +kernel
theorem dM_load_60 : decode bM_load 60 = .ok (.dup, 1) := by decide +kernel
theorem dM_load_61 : decode bM_load 61 = .ok (.getfield 76, 3) := by decide +kernel
theorem dM_load_64 : decode bM_load 64 = .ok (.iconst 1, 1) := by decide +kernel
theorem dM_load_65 : decode bM_load 65 = .ok (.iadd, 1) := by decide +kernel
theorem dM_load_66 : decode bM_load 66 = .ok (.putfield 76, 3) := by decide +kernel
theorem dM_load_69 : decode bM_load 69 = .ok (.aload_n 0, 1) := by decide +kernel
theorem dM_load_70 : decode bM_load 70 = .ok (.getfield 76, 3) := by decide +kernel
theorem dM_load_73 : decode bM_load 73 = .ok (.ireturn, 1) := by decide +kernel
theorem dM_run_0 : decode bM_run 0 = .ok (.iload_n 1, 1) := by decide +kernel
theorem dM_run_1 : decode bM_run 1 = .ok (.i2l, 1) := by decide +kernel
theorem dM_run_2 : decode bM_run 2 = .ok (.lconst 1, 1) := by decide +kernel
theorem dM_run_3 : decode bM_run 3 = .ok (.ldc2_w 108, 3) := by decide +kernel
theorem dM_run_6 : decode bM_run 6 = .ok (.invokestatic 59, 3) := by decide +kernel
theorem dM_run_9 : decode bM_run 9 = .ok (.ifCond .eq 22, 3) := by decide +kernel
theorem dM_run_12 : decode bM_run 12 = .ok (.aload_n 0, 1) := by decide +kernel
theorem dM_run_13 : decode bM_run 13 = .ok (.getfield 73, 3) := by decide +kernel
theorem dM_run_16 : decode bM_run 16 = .ok (.iload_n 1, 1) := by decide +kernel
theorem dM_run_17 : decode bM_run 17 = .ok (.iadd, 1) := by decide +kernel
theorem dM_run_18 : decode bM_run 18 = .ok (.sipush 400, 3) := by decide +kernel
theorem dM_run_21 : decode bM_run 21 = .ok (.if_icmp .gt 10, 3) := by decide +kernel
theorem dM_run_24 : decode bM_run 24 = .ok (.aload_n 0, 1) := by decide +kernel
theorem dM_run_25 : decode bM_run 25 = .ok (.getfield 79, 3) := by decide +kernel
theorem dM_run_28 : decode bM_run 28 = .ok (.ifCond .ne 5, 3) := by decide +kernel
theorem dM_run_31 : decode bM_run 31 = .ok (.iconst (-1), 1) := by decide +kernel
theorem dM_run_32 : decode bM_run 32 = .ok (.ireturn, 1) := by decide +kernel
theorem dM_run_33 : decode bM_run 33 = .ok (.iconst 0, 1) := by decide +kernel
theorem dM_run_34 : decode bM_run 34 = .ok (.istore_n 2, 1) := by decide +kernel
theorem dM_run_35 : decode bM_run 35 = .ok (.iload_n 2, 1) := by decide +kernel
theorem dM_run_36 : decode bM_run 36 = .ok (.iload_n 1, 1) := by decide +kernel
theorem dM_run_37 : decode bM_run 37 = .ok (.if_icmp .ge 46, 3) := by decide +kernel
theorem dM_run_40 : decode bM_run 40 = .ok (.aload_n 0, 1) := by decide +kernel
theorem dM_run_41 : decode bM_run 41 = .ok (.aload_n 0, 1) := by decide +kernel
theorem dM_run_42 : decode bM_run 42 = .ok (.getfield 73, 3) := by decide +kernel
theorem dM_run_45 : decode bM_run 45 = .ok (.lconst 0, 1) := by decide +kernel
theorem dM_run_46 : decode bM_run 46 = .ok (.invokevirtual 110, 3) := by decide +kernel
theorem dM_run_49 : decode bM_run 49 = .ok (.aload_n 0, 1) := by decide +kernel
theorem dM_run_50 : decode bM_run 50 = .ok (.dup, 1) := by decide +kernel
theorem dM_run_51 : decode bM_run 51 = .ok (.getfield 73, 3) := by decide +kernel
theorem dM_run_54 : decode bM_run 54 = .ok (.iconst 1, 1) := by decide +kernel
theorem dM_run_55 : decode bM_run 55 = .ok (.iadd, 1) := by decide +kernel
theorem dM_run_56 : decode bM_run 56 = .ok (.putfield 73, 3) := by decide +kernel
theorem dM_run_59 : decode bM_run 59 = .ok (.aload_n 0, 1) := by decide +kernel
theorem dM_run_60 : decode bM_run 60 = .ok (.getfield 48, 3) := by decide +kernel
theorem dM_run_63 : decode bM_run 63 = .ok (.aload_n 0, 1) := by decide +kernel
theorem dM_run_64 : decode bM_run 64 = .ok (.getfield 73, 3) := by decide +kernel
theorem dM_run_67 : decode bM_run 67 = .ok (.aload_n 0, 1) := by decide +kernel
theorem dM_run_68 : decode bM_run 68 = .ok (.iconst (-1), 1) := by decide +kernel
theorem dM_run_69 : decode bM_run 69 = .ok (.invokevirtual 114, 3) := by decide +kernel
theorem dM_run_72 : decode bM_run 72 = .ok (.ldc2_w 65, 3) := by decide +kernel
theorem dM_run_75 : decode bM_run 75 = .ok (.ldiv, 1) := by decide +kernel
theorem dM_run_76 : decode bM_run 76 = .ok (.lastore, 1) := by decide +kernel
theorem dM_run_77 : decode bM_run 77 = .ok (.iinc 2 1, 3) := by decide +kernel
theorem dM_run_80 : decode bM_run 80 = .ok (.goto (-45), 3) := by decide +kernel
theorem dM_run_83 : decode bM_run 83 = .ok (.aload_n 0, 1) := by decide +kernel
theorem dM_run_84 : decode bM_run 84 = .ok (.getfield 73, 3) := by decide +kernel
theorem dM_run_87 : decode bM_run 87 = .ok (.ireturn, 1) := by decide +kernel
theorem dM_goDay_0 : decode bM_goDay 0 = .ok (.lload_n 2, 1) := by decide +kernel
theorem dM_goDay_1 : decode bM_goDay 1 = .ok (.lstore 4, 2) := by decide +kernel
theorem dM_goDay_3 : decode bM_goDay 3 = .ok (.iconst 0, 1) := by decide +kernel
theorem dM_goDay_4 : decode bM_goDay 4 = .ok (.istore 6, 2) := by decide +kernel
theorem dM_goDay_6 : decode bM_goDay 6 = .ok (.iload 6, 2) := by decide +kernel
theorem dM_goDay_8 : decode bM_goDay 8 = .ok (.aload_n 0, 1) := by decide +kernel
theorem dM_goDay_9 : decode bM_goDay 9 = .ok (.getfield 76, 3) := by decide +kernel
theorem dM_goDay_12 : decode bM_goDay 12 = .ok (.if_icmp .ge 37, 3) := by decide +kernel
theorem dM_goDay_15 : decode bM_goDay 15 = .ok (.lload 4, 2) := by decide +kernel
theorem dM_goDay_17 : decode bM_goDay 17 = .ok (.aload_n 0, 1) := by decide +kernel
theorem dM_goDay_18 : decode bM_goDay 18 = .ok (.getfield 36, 3) := by decide +kernel
theorem dM_goDay_21 : decode bM_goDay 21 = .ok (.iload 6, 2) := by decide +kernel
theorem dM_goDay_23 : decode bM_goDay 23 = .ok (.iaload, 1) := by decide +kernel
theorem dM_goDay_24 : decode bM_goDay 24 = .ok (.iload_n 1, 1) := by decide +kernel
theorem dM_goDay_25 : decode bM_goDay 25 = .ok (.if_icmp .ne 14, 3) := by decide +kernel
theorem dM_goDay_28 : decode bM_goDay 28 = .ok (.aload_n 0, 1) := by decide +kernel
theorem dM_goDay_29 : decode bM_goDay 29 = .ok (.getfield 39, 3) := by decide +kernel
theorem dM_goDay_32 : decode bM_goDay 32 = .ok (.iload 6, 2) := by decide +kernel
theorem dM_goDay_34 : decode bM_goDay 34 = .ok (.iaload, 1) := by decide +kernel
theorem dM_goDay_35 : decode bM_goDay 35 = .ok (.i2l, 1) := by decide +kernel
theorem dM_goDay_36 : decode bM_goDay 36 = .ok (.goto 4, 3) := by decide +kernel
theorem dM_goDay_39 : decode bM_goDay 39 = .ok (.lconst 0, 1) := by decide +kernel
theorem dM_goDay_40 : decode bM_goDay 40 = .ok (.ladd, 1) := by decide +kernel
theorem dM_goDay_41 : decode bM_goDay 41 = .ok (.lstore 4, 2) := by decide +kernel
theorem dM_goDay_43 : decode bM_goDay 43 = .ok (.iinc 6 1, 3) := by decide +kernel
theorem dM_goDay_46 : decode bM_goDay 46 = .ok (.goto (-40), 3) := by decide +kernel
theorem dM_goDay_49 : decode bM_goDay 49 = .ok (.aload_n 0, 1) := by decide +kernel
theorem dM_goDay_50 : decode bM_goDay 50 = .ok (.dup, 1) := by decide +kernel
theorem dM_goDay_51 : decode bM_goDay 51 = .ok (.getfield 98, 3) := by decide +kernel
theorem dM_goDay_54 : decode bM_goDay 54 = .ok (.lload 4, 2) := by decide +kernel
theorem dM_goDay_56 : decode bM_goDay 56 = .ok (.ladd, 1) := by decide +kernel
theorem dM_goDay_57 : decode bM_goDay 57 = .ok (.putfield 98, 3) := by decide +kernel
theorem dM_goDay_60 : decode bM_goDay 60 = .ok (.iconst 0, 1) := by decide +kernel
theorem dM_goDay_61 : decode bM_goDay 61 = .ok (.istore 6, 2) := by decide +kernel
theorem dM_goDay_63 : decode bM_goDay 63 = .ok (.iload 6, 2) := by decide +kernel
theorem dM_goDay_65 : decode bM_goDay 65 = .ok (.aload_n 0, 1) := by decide +kernel
theorem dM_goDay_66 : decode bM_goDay 66 = .ok (.getfield 69, 3) := by decide +kernel
theorem dM_goDay_69 : decode bM_goDay 69 = .ok (.if_icmp .ge 21, 3) := by decide +kernel
theorem dM_goDay_72 : decode bM_goDay 72 = .ok (.aload_n 0, 1) := by decide +kernel
theorem dM_goDay_73 : decode bM_goDay 73 = .ok (.getfield 22, 3) := by decide +kernel
theorem dM_goDay_76 : decode bM_goDay 76 = .ok (.iload 6, 2) := by decide +kernel
theorem dM_goDay_78 : decode bM_goDay 78 = .ok (.dup2, 1) := by decide +kernel
theorem dM_goDay_79 : decode bM_goDay 79 = .ok (.laload, 1) := by decide +kernel
theorem dM_goDay_80 : decode bM_goDay 80 = .ok (.lload 4, 2) := by decide +kernel
theorem dM_goDay_82 : decode bM_goDay 82 = .ok (.ladd, 1) := by decide +kernel
theorem dM_goDay_83 : decode bM_goDay 83 = .ok (.lastore, 1) := by decide +kernel
theorem dM_goDay_84 : decode bM_goDay 84 = .ok (.iinc 6 1, 3) := by decide +kernel
theorem dM_goDay_87 : decode bM_goDay 87 = .ok (.goto (-24), 3) := by decide +kernel
theorem dM_goDay_90 : decode bM_goDay 90 = .ok (.iconst 0, 1) := by decide +kernel
theorem dM_goDay_91 : decode bM_goDay 91 = .ok (.istore 6, 2) := by decide +kernel
theorem dM_goDay_93 : decode bM_goDay 93 = .ok (.iload 6, 2) := by decide +kernel
theorem dM_goDay_95 : decode bM_goDay 95 = .ok (.bipush 24, 2) := by decide +kernel
theorem dM_goDay_97 : decode bM_goDay 97 = .ok (.if_icmp .ge 13, 3) := by decide +kernel
theorem dM_goDay_100 : decode bM_goDay 100 = .ok (.aload_n 0, 1) := by decide +kernel
theorem dM_goDay_101 : decode bM_goDay 101 = .ok (.invokevirtual 105, 3) := by decide +kernel
theorem dM_goDay_104 : decode bM_goDay 104 = .ok (.iinc 6 1, 3) := by decide +kernel
theorem dM_goDay_107 : decode bM_goDay 107 = .ok (.goto (-14), 3) := by decide +kernel
theorem dM_goDay_110 : decode bM_goDay 110 = .ok (.return_, 1) := by decide +kernel
theorem dM_step_0 : decode bM_step 0 = .ok (.iconst 0, 1) := by decide +kernel
theorem dM_step_1 : decode bM_step 1 = .ok (.istore_n 1, 1) := by decide +kernel
theorem dM_step_2 : decode bM_step 2 = .ok (.iload_n 1, 1) := by decide +kernel
theorem dM_step_3 : decode bM_step 3 = .ok (.aload_n 0, 1) := by decide +kernel
theorem dM_step_4 : decode bM_step 4 = .ok (.getfield 69, 3) := by decide +kernel
theorem dM_step_7 : decode bM_step 7 = .ok (.if_icmp .gt 161, 3) := by decide +kernel
theorem dM_step_10 : decode bM_step 10 = .ok (.lconst 0, 1) := by decide +kernel
theorem dM_step_11 : decode bM_step 11 = .ok (.lstore_n 2, 1) := by decide +kernel
theorem dM_step_12 : decode bM_step 12 = .ok (.iload_n 1, 1) := by decide +kernel
theorem dM_step_13 : decode bM_step 13 = .ok (.ifCond .ne 37, 3) := by decide +kernel
theorem dM_step_16 : decode bM_step 16 = .ok (.aload_n 0, 1) := by decide +kernel
theorem dM_step_17 : decode bM_step 17 = .ok (.getfield 32, 3) := by decide +kernel
theorem dM_step_20 : decode bM_step 20 = .ok (.ifCond .eq 25, 3) := by decide +kernel
theorem dM_step_23 : decode bM_step 23 = .ok (.aload_n 0, 1) := by decide +kernel
theorem dM_step_24 : decode bM_step 24 = .ok (.getfield 22, 3) := by decide +kernel
theorem dM_step_27 : decode bM_step 27 = .ok (.iconst 0, 1) := by decide +kernel
theorem dM_step_28 : decode bM_step 28 = .ok (.laload, 1) := by decide +kernel
theorem dM_step_29 : decode bM_step 29 = .ok (.aload_n 0, 1) := by decide +kernel
theorem dM_step_30 : decode bM_step 30 = .ok (.getfield 13, 3) := by decide +kernel
theorem dM_step_33 : decode bM_step 33 = .ok (.iconst 0, 1) := by decide +kernel
theorem dM_step_34 : decode bM_step 34 = .ok (.iaload, 1) := by decide +kernel
theorem dM_step_35 : decode bM_step 35 = .ok (.i2l, 1) := by decide +kernel
theorem dM_step_36 : decode bM_step 36 = .ok (.lmul, 1) := by decide +kernel
theorem dM_step_37 : decode bM_step 37 = .ok (.ldc2_w 65, 3) := by decide +kernel
theorem dM_step_40 : decode bM_step 40 = .ok (.ldiv, 1) := by decide +kernel
theorem dM_step_41 : decode bM_step 41 = .ok (.lneg, 1) := by decide +kernel
theorem dM_step_42 : decode bM_step 42 = .ok (.goto 4, 3) := by decide +kernel
theorem dM_step_45 : decode bM_step 45 = .ok (.lconst 0, 1) := by decide +kernel
theorem dM_step_46 : decode bM_step 46 = .ok (.lstore_n 2, 1) := by decide +kernel
theorem dM_step_47 : decode bM_step 47 = .ok (.goto 108, 3) := by decide +kernel
theorem dM_step_50 : decode bM_step 50 = .ok (.iload_n 1, 1) := by decide +kernel
theorem dM_step_51 : decode bM_step 51 = .ok (.aload_n 0, 1) := by decide +kernel
theorem dM_step_52 : decode bM_step 52 = .ok (.getfield 69, 3) := by decide +kernel
theorem dM_step_55 : decode bM_step 55 = .ok (.if_icmp .ne 40, 3) := by decide +kernel
theorem dM_step_58 : decode bM_step 58 = .ok (.aload_n 0, 1) := by decide +kernel
theorem dM_step_59 : decode bM_step 59 = .ok (.getfield 84, 3) := by decide +kernel
theorem dM_step_62 : decode bM_step 62 = .ok (.ifCond .eq 28, 3) := by decide +kernel
theorem dM_step_65 : decode bM_step 65 = .ok (.aload_n 0, 1) := by decide +kernel
theorem dM_step_66 : decode bM_step 66 = .ok (.getfield 22, 3) := by decide +kernel
theorem dM_step_69 : decode bM_step 69 = .ok (.iload_n 1, 1) := by decide +kernel
theorem dM_step_70 : decode bM_step 70 = .ok (.iconst 1, 1) := by decide +kernel
theorem dM_step_71 : decode bM_step 71 = .ok (.isub, 1) := by decide +kernel
theorem dM_step_72 : decode bM_step 72 = .ok (.laload, 1) := by decide +kernel
theorem dM_step_73 : decode bM_step 73 = .ok (.aload_n 0, 1) := by decide +kernel
theorem dM_step_74 : decode bM_step 74 = .ok (.getfield 13, 3) := by decide +kernel
theorem dM_step_77 : decode bM_step 77 = .ok (.iload_n 1, 1) := by decide +kernel
theorem dM_step_78 : decode bM_step 78 = .ok (.iconst 1, 1) := by decide +kernel
theorem dM_step_79 : decode bM_step 79 = .ok (.isub, 1) := by decide +kernel
theorem dM_step_80 : decode bM_step 80 = .ok (.iaload, 1) := by decide +kernel
theorem dM_step_81 : decode bM_step 81 = .ok (.i2l, 1) := by decide +kernel
theorem dM_step_82 : decode bM_step 82 = .ok (.lmul, 1) := by decide +kernel
theorem dM_step_83 : decode bM_step 83 = .ok (.ldc2_w 65, 3) := by decide +kernel
theorem dM_step_86 : decode bM_step 86 = .ok (.ldiv, 1) := by decide +kernel
theorem dM_step_87 : decode bM_step 87 = .ok (.goto 4, 3) := by decide +kernel
theorem dM_step_90 : decode bM_step 90 = .ok (.lconst 0, 1) := by decide +kernel
theorem dM_step_91 : decode bM_step 91 = .ok (.lstore_n 2, 1) := by decide +kernel
theorem dM_step_92 : decode bM_step 92 = .ok (.goto 63, 3) := by decide +kernel
theorem dM_step_95 : decode bM_step 95 = .ok (.aload_n 0, 1) := by decide +kernel
theorem dM_step_96 : decode bM_step 96 = .ok (.getfield 13, 3) := by decide +kernel
theorem dM_step_99 : decode bM_step 99 = .ok (.iload_n 1, 1) := by decide +kernel
theorem dM_step_100 : decode bM_step 100 = .ok (.iconst 1, 1) := by decide +kernel
theorem dM_step_101 : decode bM_step 101 = .ok (.isub, 1) := by decide +kernel
theorem dM_step_102 : decode bM_step 102 = .ok (.iaload, 1) := by decide +kernel
theorem dM_step_103 : decode bM_step 103 = .ok (.aload_n 0, 1) := by decide +kernel
theorem dM_step_104 : decode bM_step 104 = .ok (.getfield 13, 3) := by decide +kernel
theorem dM_step_107 : decode bM_step 107 = .ok (.iload_n 1, 1) := by decide +kernel
theorem dM_step_108 : decode bM_step 108 = .ok (.iaload, 1) := by decide +kernel
theorem dM_step_109 : decode bM_step 109 = .ok (.if_icmp .ge 14, 3) := by decide +kernel
theorem dM_step_112 : decode bM_step 112 = .ok (.aload_n 0, 1) := by decide +kernel
theorem dM_step_113 : decode bM_step 113 = .ok (.getfield 13, 3) := by decide +kernel
theorem dM_step_116 : decode bM_step 116 = .ok (.iload_n 1, 1) := by decide +kernel
theorem dM_step_117 : decode bM_step 117 = .ok (.iconst 1, 1) := by decide +kernel
theorem dM_step_118 : decode bM_step 118 = .ok (.isub, 1) := by decide +kernel
theorem dM_step_119 : decode bM_step 119 = .ok (.iaload, 1) := by decide +kernel
theorem dM_step_120 : decode bM_step 120 = .ok (.goto 9, 3) := by decide +kernel
theorem dM_step_123 : decode bM_step 123 = .ok (.aload_n 0, 1) := by decide +kernel
theorem dM_step_124 : decode bM_step 124 = .ok (.getfield 13, 3) := by decide +kernel
theorem dM_step_127 : decode bM_step 127 = .ok (.iload_n 1, 1) := by decide +kernel
theorem dM_step_128 : decode bM_step 128 = .ok (.iaload, 1) := by decide +kernel
theorem dM_step_129 : decode bM_step 129 = .ok (.istore 4, 2) := by decide +kernel
theorem dM_step_131 : decode bM_step 131 = .ok (.aload_n 0, 1) := by decide +kernel
theorem dM_step_132 : decode bM_step 132 = .ok (.getfield 22, 3) := by decide +kernel
theorem dM_step_135 : decode bM_step 135 = .ok (.iload_n 1, 1) := by decide +kernel
theorem dM_step_136 : decode bM_step 136 = .ok (.iconst 1, 1) := by decide +kernel
theorem dM_step_137 : decode bM_step 137 = .ok (.isub, 1) := by decide +kernel
theorem dM_step_138 : decode bM_step 138 = .ok (.laload, 1) := by decide +kernel
theorem dM_step_139 : decode bM_step 139 = .ok (.aload_n 0, 1) := by decide +kernel
theorem dM_step_140 : decode bM_step 140 = .ok (.getfield 22, 3) := by decide +kernel
theorem dM_step_143 : decode bM_step 143 = .ok (.iload_n 1, 1) := by decide +kernel
theorem dM_step_144 : decode bM_step 144 = .ok (.laload, 1) := by decide +kernel
theorem dM_step_145 : decode bM_step 145 = .ok (.lsub, 1) := by decide +kernel
theorem dM_step_146 : decode bM_step 146 = .ok (.iload 4, 2) := by decide +kernel
theorem dM_step_148 : decode bM_step 148 = .ok (.i2l, 1) := by decide +kernel
theorem dM_step_149 : decode bM_step 149 = .ok (.lmul, 1) := by decide +kernel
theorem dM_step_150 : decode bM_step 150 = .ok (.ldc2_w 65, 3) := by decide +kernel
theorem dM_step_153 : decode bM_step 153 = .ok (.ldiv, 1) := by decide +kernel
theorem dM_step_154 : decode bM_step 154 = .ok (.lstore_n 2, 1) := by decide +kernel
theorem dM_step_155 : decode bM_step 155 = .ok (.aload_n 0, 1) := by decide +kernel
theorem dM_step_156 : decode bM_step 156 = .ok (.getfield 51, 3) := by decide +kernel
theorem dM_step_159 : decode bM_step 159 = .ok (.iload_n 1, 1) := by decide +kernel
theorem dM_step_160 : decode bM_step 160 = .ok (.lload_n 2, 1) := by decide +kernel
theorem dM_step_161 : decode bM_step 161 = .ok (.lastore, 1) := by decide +kernel
theorem dM_step_162 : decode bM_step 162 = .ok (.iinc 1 1, 3) := by decide +kernel
theorem dM_step_165 : decode bM_step 165 = .ok (.goto (-163), 3) := by decide +kernel
theorem dM_step_168 : decode bM_step 168 = .ok (.aload_n 0, 1) := by decide +kernel
theorem dM_step_169 : decode bM_step 169 = .ok (.dup, 1) := by decide +kernel
theorem dM_step_170 : decode bM_step 170 = .ok (.getfield 94, 3) := by decide +kernel
theorem dM_step_173 : decode bM_step 173 = .ok (.aload_n 0, 1) := by decide +kernel
theorem dM_step_174 : decode bM_step 174 = .ok (.getfield 51, 3) := by decide +kernel
theorem dM_step_177 : decode bM_step 177 = .ok (.aload_n 0, 1) := by decide +kernel
theorem dM_step_178 : decode bM_step 178 = .ok (.getfield 69, 3) := by decide +kernel
theorem dM_step_181 : decode bM_step 181 = .ok (.laload, 1) := by decide +kernel
theorem dM_step_182 : decode bM_step 182 = .ok (.aload_n 0, 1) := by decide +kernel
theorem dM_step_183 : decode bM_step 183 = .ok (.getfield 51, 3) := by decide +kernel
theorem dM_step_186 : decode bM_step 186 = .ok (.iconst 0, 1) := by decide +kernel
theorem dM_step_187 : decode bM_step 187 = .ok (.laload, 1) := by decide +kernel
theorem dM_step_188 : decode bM_step 188 = .ok (.lsub, 1) := by decide +kernel
theorem dM_step_189 : decode bM_step 189 = .ok (.ladd, 1) := by decide +kernel
theorem dM_step_190 : decode bM_step 190 = .ok (.putfield 94, 3) := by decide +kernel
theorem dM_step_193 : decode bM_step 193 = .ok (.iconst 0, 1) := by decide +kernel
theorem dM_step_194 : decode bM_step 194 = .ok (.istore_n 1, 1) := by decide +kernel
theorem dM_step_195 : decode bM_step 195 = .ok (.iload_n 1, 1) := by decide +kernel
theorem dM_step_196 : decode bM_step 196 = .ok (.aload_n 0, 1) := by decide +kernel
theorem dM_step_197 : decode bM_step 197 = .ok (.getfield 69, 3) := by decide +kernel
theorem dM_step_200 : decode bM_step 200 = .ok (.if_icmp .ge 139, 3) := by decide +kernel
theorem dM_step_203 : decode bM_step 203 = .ok (.aload_n 0, 1) := by decide +kernel
theorem dM_step_204 : decode bM_step 204 = .ok (.getfield 22, 3) := by decide +kernel
theorem dM_step_207 : decode bM_step 207 = .ok (.iload_n 1, 1) := by decide +kernel
theorem dM_step_208 : decode bM_step 208 = .ok (.laload, 1) := by decide +kernel
theorem dM_step_209 : decode bM_step 209 = .ok (.aload_n 0, 1) := by decide +kernel
theorem dM_step_210 : decode bM_step 210 = .ok (.getfield 87, 3) := by decide +kernel
theorem dM_step_213 : decode bM_step 213 = .ok (.i2l, 1) := by decide +kernel
theorem dM_step_214 : decode bM_step 214 = .ok (.lmul, 1) := by decide +kernel
theorem dM_step_215 : decode bM_step 215 = .ok (.ldc2_w 65, 3) := by decide +kernel
theorem dM_step_218 : decode bM_step 218 = .ok (.ldiv, 1) := by decide +kernel
theorem dM_step_219 : decode bM_step 219 = .ok (.lstore_n 2, 1) := by decide +kernel
theorem dM_step_220 : decode bM_step 220 = .ok (.aload_n 0, 1) := by decide +kernel
theorem dM_step_221 : decode bM_step 221 = .ok (.getfield 22, 3) := by decide +kernel
theorem dM_step_224 : decode bM_step 224 = .ok (.iload_n 1, 1) := by decide +kernel
theorem dM_step_225 : decode bM_step 225 = .ok (.laload, 1) := by decide +kernel
theorem dM_step_226 : decode bM_step 226 = .ok (.aload_n 0, 1) := by decide +kernel
theorem dM_step_227 : decode bM_step 227 = .ok (.getfield 51, 3) := by decide +kernel
theorem dM_step_230 : decode bM_step 230 = .ok (.iload_n 1, 1) := by decide +kernel
theorem dM_step_231 : decode bM_step 231 = .ok (.laload, 1) := by decide +kernel
theorem dM_step_232 : decode bM_step 232 = .ok (.ladd, 1) := by decide +kernel
theorem dM_step_233 : decode bM_step 233 = .ok (.aload_n 0, 1) := by decide +kernel
theorem dM_step_234 : decode bM_step 234 = .ok (.getfield 51, 3) := by decide +kernel
theorem dM_step_237 : decode bM_step 237 = .ok (.iload_n 1, 1) := by decide +kernel
theorem dM_step_238 : decode bM_step 238 = .ok (.iconst 1, 1) := by decide +kernel
theorem dM_step_239 : decode bM_step 239 = .ok (.iadd, 1) := by decide +kernel
theorem dM_step_240 : decode bM_step 240 = .ok (.laload, 1) := by decide +kernel
theorem dM_step_241 : decode bM_step 241 = .ok (.lsub, 1) := by decide +kernel
theorem dM_step_242 : decode bM_step 242 = .ok (.lload_n 2, 1) := by decide +kernel
theorem dM_step_243 : decode bM_step 243 = .ok (.lsub, 1) := by decide +kernel
theorem dM_step_244 : decode bM_step 244 = .ok (.lstore 4, 2) := by decide +kernel
theorem dM_step_246 : decode bM_step 246 = .ok (.aload_n 0, 1) := by decide +kernel
theorem dM_step_247 : decode bM_step 247 = .ok (.getfield 98, 3) := by decide +kernel
theorem dM_step_250 : decode bM_step 250 = .ok (.aload_n 0, 1) := by decide +kernel
theorem dM_step_251 : decode bM_step 251 = .ok (.getfield 22, 3) := by decide +kernel
theorem dM_step_254 : decode bM_step 254 = .ok (.iload_n 1, 1) := by decide +kernel
theorem dM_step_255 : decode bM_step 255 = .ok (.laload, 1) := by decide +kernel
theorem dM_step_256 : decode bM_step 256 = .ok (.lsub, 1) := by decide +kernel
theorem dM_step_257 : decode bM_step 257 = .ok (.lstore 6, 2) := by decide +kernel
theorem dM_step_259 : decode bM_step 259 = .ok (.aload_n 0, 1) := by decide +kernel
theorem dM_step_260 : decode bM_step 260 = .ok (.getfield 98, 3) := by decide +kernel
theorem dM_step_263 : decode bM_step 263 = .ok (.lload 4, 2) := by decide +kernel
theorem dM_step_265 : decode bM_step 265 = .ok (.lsub, 1) := by decide +kernel
theorem dM_step_266 : decode bM_step 266 = .ok (.lstore 8, 2) := by decide +kernel
theorem dM_step_268 : decode bM_step 268 = .ok (.aload_n 0, 1) := by decide +kernel
theorem dM_step_269 : decode bM_step 269 = .ok (.dup, 1) := by decide +kernel
theorem dM_step_270 : decode bM_step 270 = .ok (.getfield 94, 3) := by decide +kernel
theorem dM_step_273 : decode bM_step 273 = .ok (.lload_n 2, 1) := by decide +kernel
theorem dM_step_274 : decode bM_step 274 = .ok (.ladd, 1) := by decide +kernel
theorem dM_step_275 : decode bM_step 275 = .ok (.putfield 94, 3) := by decide +kernel
theorem dM_step_278 : decode bM_step 278 = .ok (.aload_n 0, 1) := by decide +kernel
theorem dM_step_279 : decode bM_step 279 = .ok (.getfield 29, 3) := by decide +kernel
theorem dM_step_282 : decode bM_step 282 = .ok (.iload_n 1, 1) := by decide +kernel
theorem dM_step_283 : decode bM_step 283 = .ok (.dup2, 1) := by decide +kernel
theorem dM_step_284 : decode bM_step 284 = .ok (.laload, 1) := by decide +kernel
theorem dM_step_285 : decode bM_step 285 = .ok (.aload_n 0, 1) := by decide +kernel
theorem dM_step_286 : decode bM_step 286 = .ok (.iload_n 1, 1) := by decide +kernel
theorem dM_step_287 : decode bM_step 287 = .ok (.lload 6, 2) := by decide +kernel
theorem dM_step_289 : decode bM_step 289 = .ok (.lload 8, 2) := by decide +kernel
theorem dM_step_291 : decode bM_step 291 = .ok (.invokevirtual 101, 3) := by decide +kernel
theorem dM_step_294 : decode bM_step 294 = .ok (.ladd, 1) := by decide +kernel
theorem dM_step_295 : decode bM_step 295 = .ok (.lastore, 1) := by decide +kernel
theorem dM_step_296 : decode bM_step 296 = .ok (.aload_n 0, 1) := by decide +kernel
theorem dM_step_297 : decode bM_step 297 = .ok (.getfield 26, 3) := by decide +kernel
theorem dM_step_300 : decode bM_step 300 = .ok (.iload_n 1, 1) := by decide +kernel
theorem dM_step_301 : decode bM_step 301 = .ok (.lload 8, 2) := by decide +kernel
theorem dM_step_303 : decode bM_step 303 = .ok (.aload_n 0, 1) := by decide +kernel
theorem dM_step_304 : decode bM_step 304 = .ok (.getfield 26, 3) := by decide +kernel
theorem dM_step_307 : decode bM_step 307 = .ok (.iload_n 1, 1) := by decide +kernel
theorem dM_step_308 : decode bM_step 308 = .ok (.laload, 1) := by decide +kernel
theorem dM_step_309 : decode bM_step 309 = .ok (.lcmp, 1) := by decide +kernel
theorem dM_step_310 : decode bM_step 310 = .ok (.ifCond .le 8, 3) := by decide +kernel
theorem dM_step_313 : decode bM_step 313 = .ok (.lload 8, 2) := by decide +kernel
theorem dM_step_315 : decode bM_step 315 = .ok (.goto 9, 3) := by decide +kernel
theorem dM_step_318 : decode bM_step 318 = .ok (.aload_n 0, 1) := by decide +kernel
theorem dM_step_319 : decode bM_step 319 = .ok (.getfield 26, 3) := by decide +kernel
theorem dM_step_322 : decode bM_step 322 = .ok (.iload_n 1, 1) := by decide +kernel
theorem dM_step_323 : decode bM_step 323 = .ok (.laload, 1) := by decide +kernel
theorem dM_step_324 : decode bM_step 324 = .ok (.lastore, 1) := by decide +kernel
theorem dM_step_325 : decode bM_step 325 = .ok (.aload_n 0, 1) := by decide +kernel
theorem dM_step_326 : decode bM_step 326 = .ok (.getfield 22, 3) := by decide +kernel
theorem dM_step_329 : decode bM_step 329 = .ok (.iload_n 1, 1) := by decide +kernel
theorem dM_step_330 : decode bM_step 330 = .ok (.lload 4, 2) := by decide +kernel
theorem dM_step_332 : decode bM_step 332 = .ok (.lastore, 1) := by decide +kernel
theorem dM_step_333 : decode bM_step 333 = .ok (.iinc 1 1, 3) := by decide +kernel
theorem dM_step_336 : decode bM_step 336 = .ok (.goto (-141), 3) := by decide +kernel
theorem dM_step_339 : decode bM_step 339 = .ok (.return_, 1) := by decide +kernel
theorem dM_sinking_0 : decode bM_sinking 0 = .ok (.lload 4, 2) := by decide +kernel
theorem dM_sinking_2 : decode bM_sinking 2 = .ok (.lload_n 2, 1) := by decide +kernel
theorem dM_sinking_3 : decode bM_sinking 3 = .ok (.lcmp, 1) := by decide +kernel
theorem dM_sinking_4 : decode bM_sinking 4 = .ok (.ifCond .ge 16, 3) := by decide +kernel
theorem dM_sinking_7 : decode bM_sinking 7 = .ok (.aload_n 0, 1) := by decide +kernel
theorem dM_sinking_8 : decode bM_sinking 8 = .ok (.getfield 16, 3) := by decide +kernel
theorem dM_sinking_11 : decode bM_sinking 11 = .ok (.iload_n 1, 1) := by decide +kernel
theorem dM_sinking_12 : decode bM_sinking 12 = .ok (.iaload, 1) := by decide +kernel
theorem dM_sinking_13 : decode bM_sinking 13 = .ok (.i2l, 1) := by decide +kernel
theorem dM_sinking_14 : decode bM_sinking 14 = .ok (.lload 4, 2) := by decide +kernel
theorem dM_sinking_16 : decode bM_sinking 16 = .ok (.lload_n 2, 1) := by decide +kernel
theorem dM_sinking_17 : decode bM_sinking 17 = .ok (.lsub, 1) := by decide +kernel
theorem dM_sinking_18 : decode bM_sinking 18 = .ok (.lmul, 1) := by decide +kernel
theorem dM_sinking_19 : decode bM_sinking 19 = .ok (.lreturn, 1) := by decide +kernel
theorem dM_sinking_20 : decode bM_sinking 20 = .ok (.aload_n 0, 1) := by decide +kernel
theorem dM_sinking_21 : decode bM_sinking 21 = .ok (.getfield 26, 3) := by decide +kernel
theorem dM_sinking_24 : decode bM_sinking 24 = .ok (.iload_n 1, 1) := by decide +kernel
theorem dM_sinking_25 : decode bM_sinking 25 = .ok (.laload, 1) := by decide +kernel
theorem dM_sinking_26 : decode bM_sinking 26 = .ok (.lload 4, 2) := by decide +kernel
theorem dM_sinking_28 : decode bM_sinking 28 = .ok (.lcmp, 1) := by decide +kernel
theorem dM_sinking_29 : decode bM_sinking 29 = .ok (.ifCond .ge 12, 3) := by decide +kernel
theorem dM_sinking_32 : decode bM_sinking 32 = .ok (.aload_n 0, 1) := by decide +kernel
theorem dM_sinking_33 : decode bM_sinking 33 = .ok (.getfield 26, 3) := by decide +kernel
theorem dM_sinking_36 : decode bM_sinking 36 = .ok (.iload_n 1, 1) := by decide +kernel
theorem dM_sinking_37 : decode bM_sinking 37 = .ok (.laload, 1) := by decide +kernel
theorem dM_sinking_38 : decode bM_sinking 38 = .ok (.goto 5, 3) := by decide +kernel
theorem dM_sinking_41 : decode bM_sinking 41 = .ok (.lload 4, 2) := by decide +kernel
theorem dM_sinking_43 : decode bM_sinking 43 = .ok (.lstore 6, 2) := by decide +kernel
theorem dM_sinking_45 : decode bM_sinking 45 = .ok (.aload_n 0, 1) := by decide +kernel
theorem dM_sinking_46 : decode bM_sinking 46 = .ok (.getfield 16, 3) := by decide +kernel
theorem dM_sinking_49 : decode bM_sinking 49 = .ok (.iload_n 1, 1) := by decide +kernel
theorem dM_sinking_50 : decode bM_sinking 50 = .ok (.iaload, 1) := by decide +kernel
theorem dM_sinking_51 : decode bM_sinking 51 = .ok (.i2l, 1) := by decide +kernel
theorem dM_sinking_52 : decode bM_sinking 52 = .ok (.lload 6, 2) := by decide +kernel
theorem dM_sinking_54 : decode bM_sinking 54 = .ok (.lload_n 2, 1) := by decide +kernel
theorem dM_sinking_55 : decode bM_sinking 55 = .ok (.lsub, 1) := by decide +kernel
theorem dM_sinking_56 : decode bM_sinking 56 = .ok (.lmul, 1) := by decide +kernel
theorem dM_sinking_57 : decode bM_sinking 57 = .ok (.aload_n 0, 1) := by decide +kernel
theorem dM_sinking_58 : decode bM_sinking 58 = .ok (.getfield 19, 3) := by decide +kernel
theorem dM_sinking_61 : decode bM_sinking 61 = .ok (.iload_n 1, 1) := by decide +kernel
theorem dM_sinking_62 : decode bM_sinking 62 = .ok (.iaload, 1) := by decide +kernel
theorem dM_sinking_63 : decode bM_sinking 63 = .ok (.i2l, 1) := by decide +kernel
theorem dM_sinking_64 : decode bM_sinking 64 = .ok (.lload 4, 2) := by decide +kernel
theorem dM_sinking_66 : decode bM_sinking 66 = .ok (.lload 6, 2) := by decide +kernel
theorem dM_sinking_68 : decode bM_sinking 68 = .ok (.lsub, 1) := by decide +kernel
theorem dM_sinking_69 : decode bM_sinking 69 = .ok (.lmul, 1) := by decide +kernel
theorem dM_sinking_70 : decode bM_sinking 70 = .ok (.ladd, 1) := by decide +kernel
theorem dM_sinking_71 : decode bM_sinking 71 = .ok (.lreturn, 1) := by decide +kernel
theorem dM_units_0 : decode bM_units 0 = .ok (.lconst 0, 1) := by decide +kernel
theorem dM_units_1 : decode bM_units 1 = .ok (.lstore_n 2, 1) := by decide +kernel
theorem dM_units_2 : decode bM_units 2 = .ok (.iconst 0, 1) := by decide +kernel
theorem dM_units_3 : decode bM_units 3 = .ok (.istore 4, 2) := by decide +kernel
theorem dM_units_5 : decode bM_units 5 = .ok (.iload 4, 2) := by decide +kernel
theorem dM_units_7 : decode bM_units 7 = .ok (.aload_n 0, 1) := by decide +kernel
theorem dM_units_8 : decode bM_units 8 = .ok (.getfield 69, 3) := by decide +kernel
theorem dM_units_11 : decode bM_units 11 = .ok (.if_icmp .ge 39, 3) := by decide +kernel
theorem dM_units_14 : decode bM_units 14 = .ok (.lload_n 2, 1) := by decide +kernel
theorem dM_units_15 : decode bM_units 15 = .ok (.iload_n 1, 1) := by decide +kernel
theorem dM_units_16 : decode bM_units 16 = .ok (.iconst (-1), 1) := by decide +kernel
theorem dM_units_17 : decode bM_units 17 = .ok (.if_icmp .eq 14, 3) := by decide +kernel
theorem dM_units_20 : decode bM_units 20 = .ok (.aload_n 0, 1) := by decide +kernel
theorem dM_units_21 : decode bM_units 21 = .ok (.getfield 7, 3) := by decide +kernel
theorem dM_units_24 : decode bM_units 24 = .ok (.iload 4, 2) := by decide +kernel
theorem dM_units_26 : decode bM_units 26 = .ok (.iaload, 1) := by decide +kernel
theorem dM_units_27 : decode bM_units 27 = .ok (.iload_n 1, 1) := by decide +kernel
theorem dM_units_28 : decode bM_units 28 = .ok (.if_icmp .ne 13, 3) := by decide +kernel
theorem dM_units_31 : decode bM_units 31 = .ok (.aload_n 0, 1) := by decide +kernel
theorem dM_units_32 : decode bM_units 32 = .ok (.getfield 29, 3) := by decide +kernel
theorem dM_units_35 : decode bM_units 35 = .ok (.iload 4, 2) := by decide +kernel
theorem dM_units_37 : decode bM_units 37 = .ok (.laload, 1) := by decide +kernel
theorem dM_units_38 : decode bM_units 38 = .ok (.goto 4, 3) := by decide +kernel
theorem dM_units_41 : decode bM_units 41 = .ok (.lconst 0, 1) := by decide +kernel
theorem dM_units_42 : decode bM_units 42 = .ok (.ladd, 1) := by decide +kernel
theorem dM_units_43 : decode bM_units 43 = .ok (.lstore_n 2, 1) := by decide +kernel
theorem dM_units_44 : decode bM_units 44 = .ok (.iinc 4 1, 3) := by decide +kernel
theorem dM_units_47 : decode bM_units 47 = .ok (.goto (-42), 3) := by decide +kernel
theorem dM_units_50 : decode bM_units 50 = .ok (.lload_n 2, 1) := by decide +kernel
theorem dM_units_51 : decode bM_units 51 = .ok (.lreturn, 1) := by decide +kernel
theorem dM_sunk_0 : decode bM_sunk 0 = .ok (.iload_n 1, 1) := by decide +kernel
theorem dM_sunk_1 : decode bM_sunk 1 = .ok (.i2l, 1) := by decide +kernel
theorem dM_sunk_2 : decode bM_sunk 2 = .ok (.ldc2_w 118, 3) := by decide +kernel
theorem dM_sunk_5 : decode bM_sunk 5 = .ok (.aload_n 0, 1) := by decide +kernel
theorem dM_sunk_6 : decode bM_sunk 6 = .ok (.getfield 79, 3) := by decide +kernel
theorem dM_sunk_9 : decode bM_sunk 9 = .ok (.iconst 1, 1) := by decide +kernel
theorem dM_sunk_10 : decode bM_sunk 10 = .ok (.isub, 1) := by decide +kernel
theorem dM_sunk_11 : decode bM_sunk 11 = .ok (.i2l, 1) := by decide +kernel
theorem dM_sunk_12 : decode bM_sunk 12 = .ok (.invokestatic 59, 3) := by decide +kernel
theorem dM_sunk_15 : decode bM_sunk 15 = .ok (.ifCond .eq 15, 3) := by decide +kernel
theorem dM_sunk_18 : decode bM_sunk 18 = .ok (.aload_n 0, 1) := by decide +kernel
theorem dM_sunk_19 : decode bM_sunk 19 = .ok (.iload_n 1, 1) := by decide +kernel
theorem dM_sunk_20 : decode bM_sunk 20 = .ok (.invokevirtual 114, 3) := by decide +kernel
theorem dM_sunk_23 : decode bM_sunk 23 = .ok (.ldc2_w 65, 3) := by decide +kernel
theorem dM_sunk_26 : decode bM_sunk 26 = .ok (.ldiv, 1) := by decide +kernel
theorem dM_sunk_27 : decode bM_sunk 27 = .ok (.goto 6, 3) := by decide +kernel
theorem dM_sunk_30 : decode bM_sunk 30 = .ok (.ldc2_w 118, 3) := by decide +kernel
theorem dM_sunk_33 : decode bM_sunk 33 = .ok (.lreturn, 1) := by decide +kernel
theorem dM_told_0 : decode bM_told 0 = .ok (.iload_n 1, 1) := by decide +kernel
theorem dM_told_1 : decode bM_told 1 = .ok (.i2l, 1) := by decide +kernel
theorem dM_told_2 : decode bM_told 2 = .ok (.lconst 0, 1) := by decide +kernel
theorem dM_told_3 : decode bM_told 3 = .ok (.aload_n 0, 1) := by decide +kernel
theorem dM_told_4 : decode bM_told 4 = .ok (.getfield 69, 3) := by decide +kernel
theorem dM_told_7 : decode bM_told 7 = .ok (.iconst 1, 1) := by decide +kernel
theorem dM_told_8 : decode bM_told 8 = .ok (.isub, 1) := by decide +kernel
theorem dM_told_9 : decode bM_told 9 = .ok (.i2l, 1) := by decide +kernel
theorem dM_told_10 : decode bM_told 10 = .ok (.invokestatic 59, 3) := by decide +kernel
theorem dM_told_13 : decode bM_told 13 = .ok (.ifCond .eq 15, 3) := by decide +kernel
theorem dM_told_16 : decode bM_told 16 = .ok (.iload_n 2, 1) := by decide +kernel
theorem dM_told_17 : decode bM_told 17 = .ok (.i2l, 1) := by decide +kernel
theorem dM_told_18 : decode bM_told 18 = .ok (.lconst 0, 1) := by decide +kernel
theorem dM_told_19 : decode bM_told 19 = .ok (.ldc2_w 120, 3) := by decide +kernel
theorem dM_told_22 : decode bM_told 22 = .ok (.invokestatic 59, 3) := by decide +kernel
theorem dM_told_25 : decode bM_told 25 = .ok (.ifCond .ne 5, 3) := by decide +kernel
theorem dM_told_28 : decode bM_told 28 = .ok (.iconst (-1), 1) := by decide +kernel
theorem dM_told_29 : decode bM_told 29 = .ok (.ireturn, 1) := by decide +kernel
theorem dM_told_30 : decode bM_told 30 = .ok (.iload_n 2, 1) := by decide +kernel
theorem dM_told_31 : decode bM_told 31 = .ok (.ifCond .ne 12, 3) := by decide +kernel
theorem dM_told_34 : decode bM_told 34 = .ok (.aload_n 0, 1) := by decide +kernel
theorem dM_told_35 : decode bM_told 35 = .ok (.getfield 22, 3) := by decide +kernel
theorem dM_told_38 : decode bM_told 38 = .ok (.iload_n 1, 1) := by decide +kernel
theorem dM_told_39 : decode bM_told 39 = .ok (.laload, 1) := by decide +kernel
theorem dM_told_40 : decode bM_told 40 = .ok (.goto 28, 3) := by decide +kernel
theorem dM_told_43 : decode bM_told 43 = .ok (.iload_n 2, 1) := by decide +kernel
theorem dM_told_44 : decode bM_told 44 = .ok (.iconst 1, 1) := by decide +kernel
theorem dM_told_45 : decode bM_told 45 = .ok (.if_icmp .ne 17, 3) := by decide +kernel
theorem dM_told_48 : decode bM_told 48 = .ok (.aload_n 0, 1) := by decide +kernel
theorem dM_told_49 : decode bM_told 49 = .ok (.getfield 98, 3) := by decide +kernel
theorem dM_told_52 : decode bM_told 52 = .ok (.aload_n 0, 1) := by decide +kernel
theorem dM_told_53 : decode bM_told 53 = .ok (.getfield 22, 3) := by decide +kernel
theorem dM_told_56 : decode bM_told 56 = .ok (.iload_n 1, 1) := by decide +kernel
theorem dM_told_57 : decode bM_told 57 = .ok (.laload, 1) := by decide +kernel
theorem dM_told_58 : decode bM_told 58 = .ok (.lsub, 1) := by decide +kernel
theorem dM_told_59 : decode bM_told 59 = .ok (.goto 9, 3) := by decide +kernel
theorem dM_told_62 : decode bM_told 62 = .ok (.aload_n 0, 1) := by decide +kernel
theorem dM_told_63 : decode bM_told 63 = .ok (.getfield 26, 3) := by decide +kernel
theorem dM_told_66 : decode bM_told 66 = .ok (.iload_n 1, 1) := by decide +kernel
theorem dM_told_67 : decode bM_told 67 = .ok (.laload, 1) := by decide +kernel
theorem dM_told_68 : decode bM_told 68 = .ok (.l2i, 1) := by decide +kernel
theorem dM_told_69 : decode bM_told 69 = .ok (.ireturn, 1) := by decide +kernel
theorem dM_out_0 : decode bM_out 0 = .ok (.aload_n 0, 1) := by decide +kernel
theorem dM_out_1 : decode bM_out 1 = .ok (.getfield 94, 3) := by decide +kernel
theorem dM_out_4 : decode bM_out 4 = .ok (.lreturn, 1) := by decide +kernel
theorem dM_balance_0 : decode bM_balance 0 = .ok (.aload_n 0, 1) := by decide +kernel
theorem dM_balance_1 : decode bM_balance 1 = .ok (.getfield 94, 3) := by decide +kernel
theorem dM_balance_4 : decode bM_balance 4 = .ok (.lstore_n 1, 1) := by decide +kernel
theorem dM_balance_5 : decode bM_balance 5 = .ok (.iconst 0, 1) := by decide +kernel
theorem dM_balance_6 : decode bM_balance 6 = .ok (.istore_n 3, 1) := by decide +kernel
theorem dM_balance_7 : decode bM_balance 7 = .ok (.iload_n 3, 1) := by decide +kernel
theorem dM_balance_8 : decode bM_balance 8 = .ok (.aload_n 0, 1) := by decide +kernel
theorem dM_balance_9 : decode bM_balance 9 = .ok (.getfield 69, 3) := by decide +kernel
theorem dM_balance_12 : decode bM_balance 12 = .ok (.if_icmp .ge 18, 3) := by decide +kernel
theorem dM_balance_15 : decode bM_balance 15 = .ok (.lload_n 1, 1) := by decide +kernel
theorem dM_balance_16 : decode bM_balance 16 = .ok (.aload_n 0, 1) := by decide +kernel
theorem dM_balance_17 : decode bM_balance 17 = .ok (.getfield 22, 3) := by decide +kernel
theorem dM_balance_20 : decode bM_balance 20 = .ok (.iload_n 3, 1) := by decide +kernel
theorem dM_balance_21 : decode bM_balance 21 = .ok (.laload, 1) := by decide +kernel
theorem dM_balance_22 : decode bM_balance 22 = .ok (.ladd, 1) := by decide +kernel
theorem dM_balance_23 : decode bM_balance 23 = .ok (.lstore_n 1, 1) := by decide +kernel
theorem dM_balance_24 : decode bM_balance 24 = .ok (.iinc 3 1, 3) := by decide +kernel
theorem dM_balance_27 : decode bM_balance 27 = .ok (.goto (-20), 3) := by decide +kernel
theorem dM_balance_30 : decode bM_balance 30 = .ok (.lload_n 1, 1) := by decide +kernel
theorem dM_balance_31 : decode bM_balance 31 = .ok (.aload_n 0, 1) := by decide +kernel
theorem dM_balance_32 : decode bM_balance 32 = .ok (.getfield 98, 3) := by decide +kernel
theorem dM_balance_35 : decode bM_balance 35 = .ok (.aload_n 0, 1) := by decide +kernel
theorem dM_balance_36 : decode bM_balance 36 = .ok (.getfield 69, 3) := by decide +kernel
theorem dM_balance_39 : decode bM_balance 39 = .ok (.i2l, 1) := by decide +kernel
theorem dM_balance_40 : decode bM_balance 40 = .ok (.lmul, 1) := by decide +kernel
theorem dM_balance_41 : decode bM_balance 41 = .ok (.lcmp, 1) := by decide +kernel
theorem dM_balance_42 : decode bM_balance 42 = .ok (.ifCond .ne 7, 3) := by decide +kernel
theorem dM_balance_45 : decode bM_balance 45 = .ok (.iconst 1, 1) := by decide +kernel
theorem dM_balance_46 : decode bM_balance 46 = .ok (.goto 4, 3) := by decide +kernel
theorem dM_balance_49 : decode bM_balance 49 = .ok (.iconst 0, 1) := by decide +kernel
theorem dM_balance_50 : decode bM_balance 50 = .ok (.ireturn, 1) := by decide +kernel
theorem dM_end_0 : decode bM_end 0 = .ok (.aload_n 0, 1) := by decide +kernel
theorem dM_end_1 : decode bM_end 1 = .ok (.invokevirtual 122, 3) := by decide +kernel
theorem dM_end_4 : decode bM_end 4 = .ok (.ldc2_w 65, 3) := by decide +kernel
theorem dM_end_7 : decode bM_end 7 = .ok (.ldiv, 1) := by decide +kernel
theorem dM_end_8 : decode bM_end 8 = .ok (.lreturn, 1) := by decide +kernel
theorem dM_endUnits_0 : decode bM_endUnits 0 = .ok (.lconst 0, 1) := by decide +kernel
theorem dM_endUnits_1 : decode bM_endUnits 1 = .ok (.lstore_n 1, 1) := by decide +kernel
theorem dM_endUnits_2 : decode bM_endUnits 2 = .ok (.iconst 0, 1) := by decide +kernel
theorem dM_endUnits_3 : decode bM_endUnits 3 = .ok (.istore_n 3, 1) := by decide +kernel
theorem dM_endUnits_4 : decode bM_endUnits 4 = .ok (.iload_n 3, 1) := by decide +kernel
theorem dM_endUnits_5 : decode bM_endUnits 5 = .ok (.aload_n 0, 1) := by decide +kernel
theorem dM_endUnits_6 : decode bM_endUnits 6 = .ok (.getfield 76, 3) := by decide +kernel
theorem dM_endUnits_9 : decode bM_endUnits 9 = .ok (.if_icmp .ge 19, 3) := by decide +kernel
theorem dM_endUnits_12 : decode bM_endUnits 12 = .ok (.lload_n 1, 1) := by decide +kernel
theorem dM_endUnits_13 : decode bM_endUnits 13 = .ok (.aload_n 0, 1) := by decide +kernel
theorem dM_endUnits_14 : decode bM_endUnits 14 = .ok (.getfield 39, 3) := by decide +kernel
theorem dM_endUnits_17 : decode bM_endUnits 17 = .ok (.iload_n 3, 1) := by decide +kernel
theorem dM_endUnits_18 : decode bM_endUnits 18 = .ok (.iaload, 1) := by decide +kernel
theorem dM_endUnits_19 : decode bM_endUnits 19 = .ok (.i2l, 1) := by decide +kernel
theorem dM_endUnits_20 : decode bM_endUnits 20 = .ok (.ladd, 1) := by decide +kernel
theorem dM_endUnits_21 : decode bM_endUnits 21 = .ok (.lstore_n 1, 1) := by decide +kernel
theorem dM_endUnits_22 : decode bM_endUnits 22 = .ok (.iinc 3 1, 3) := by decide +kernel
theorem dM_endUnits_25 : decode bM_endUnits 25 = .ok (.goto (-21), 3) := by decide +kernel
theorem dM_endUnits_28 : decode bM_endUnits 28 = .ok (.aload_n 0, 1) := by decide +kernel
theorem dM_endUnits_29 : decode bM_endUnits 29 = .ok (.iconst (-1), 1) := by decide +kernel
theorem dM_endUnits_30 : decode bM_endUnits 30 = .ok (.invokevirtual 114, 3) := by decide +kernel
theorem dM_endUnits_33 : decode bM_endUnits 33 = .ok (.lstore_n 3, 1) := by decide +kernel
theorem dM_endUnits_34 : decode bM_endUnits 34 = .ok (.iconst 0, 1) := by decide +kernel
theorem dM_endUnits_35 : decode bM_endUnits 35 = .ok (.istore 5, 2) := by decide +kernel
theorem dM_endUnits_37 : decode bM_endUnits 37 = .ok (.iload 5, 2) := by decide +kernel
theorem dM_endUnits_39 : decode bM_endUnits 39 = .ok (.aload_n 0, 1) := by decide +kernel
theorem dM_endUnits_40 : decode bM_endUnits 40 = .ok (.getfield 69, 3) := by decide +kernel
theorem dM_endUnits_43 : decode bM_endUnits 43 = .ok (.if_icmp .ge 31, 3) := by decide +kernel
theorem dM_endUnits_46 : decode bM_endUnits 46 = .ok (.lload_n 3, 1) := by decide +kernel
theorem dM_endUnits_47 : decode bM_endUnits 47 = .ok (.aload_n 0, 1) := by decide +kernel
theorem dM_endUnits_48 : decode bM_endUnits 48 = .ok (.iload 5, 2) := by decide +kernel
theorem dM_endUnits_50 : decode bM_endUnits 50 = .ok (.aload_n 0, 1) := by decide +kernel
theorem dM_endUnits_51 : decode bM_endUnits 51 = .ok (.getfield 98, 3) := by decide +kernel
theorem dM_endUnits_54 : decode bM_endUnits 54 = .ok (.aload_n 0, 1) := by decide +kernel
theorem dM_endUnits_55 : decode bM_endUnits 55 = .ok (.getfield 22, 3) := by decide +kernel
theorem dM_endUnits_58 : decode bM_endUnits 58 = .ok (.iload 5, 2) := by decide +kernel
theorem dM_endUnits_60 : decode bM_endUnits 60 = .ok (.laload, 1) := by decide +kernel
theorem dM_endUnits_61 : decode bM_endUnits 61 = .ok (.lsub, 1) := by decide +kernel
theorem dM_endUnits_62 : decode bM_endUnits 62 = .ok (.lload_n 1, 1) := by decide +kernel
theorem dM_endUnits_63 : decode bM_endUnits 63 = .ok (.invokevirtual 101, 3) := by decide +kernel
theorem dM_endUnits_66 : decode bM_endUnits 66 = .ok (.ladd, 1) := by decide +kernel
theorem dM_endUnits_67 : decode bM_endUnits 67 = .ok (.lstore_n 3, 1) := by decide +kernel
theorem dM_endUnits_68 : decode bM_endUnits 68 = .ok (.iinc 5 1, 3) := by decide +kernel
theorem dM_endUnits_71 : decode bM_endUnits 71 = .ok (.goto (-34), 3) := by decide +kernel
theorem dM_endUnits_74 : decode bM_endUnits 74 = .ok (.lload_n 3, 1) := by decide +kernel
theorem dM_endUnits_75 : decode bM_endUnits 75 = .ok (.lreturn, 1) := by decide +kernel
theorem dM_share_0 : decode bM_share 0 = .ok (.aload_n 0, 1) := by decide +kernel
theorem dM_share_1 : decode bM_share 1 = .ok (.invokevirtual 126, 3) := by decide +kernel
theorem dM_share_4 : decode bM_share 4 = .ok (.ireturn, 1) := by decide +kernel
theorem dM_shareNow_0 : decode bM_shareNow 0 = .ok (.aload_n 0, 1) := by decide +kernel
theorem dM_shareNow_1 : decode bM_shareNow 1 = .ok (.invokevirtual 122, 3) := by decide +kernel
theorem dM_shareNow_4 : decode bM_shareNow 4 = .ok (.lstore_n 1, 1) := by decide +kernel
theorem dM_shareNow_5 : decode bM_shareNow 5 = .ok (.lload_n 1, 1) := by decide +kernel
theorem dM_shareNow_6 : decode bM_shareNow 6 = .ok (.lconst 0, 1) := by decide +kernel
theorem dM_shareNow_7 : decode bM_shareNow 7 = .ok (.lcmp, 1) := by decide +kernel
theorem dM_shareNow_8 : decode bM_shareNow 8 = .ok (.ifCond .ne 9, 3) := by decide +kernel
theorem dM_shareNow_11 : decode bM_shareNow 11 = .ok (.sipush 1000, 3) := by decide +kernel
theorem dM_shareNow_14 : decode bM_shareNow 14 = .ok (.goto 15, 3) := by decide +kernel
theorem dM_shareNow_17 : decode bM_shareNow 17 = .ok (.ldc2_w 65, 3) := by decide +kernel
theorem dM_shareNow_20 : decode bM_shareNow 20 = .ok (.aload_n 0, 1) := by decide +kernel
theorem dM_shareNow_21 : decode bM_shareNow 21 = .ok (.iconst (-1), 1) := by decide +kernel
theorem dM_shareNow_22 : decode bM_shareNow 22 = .ok (.invokevirtual 114, 3) := by decide +kernel
theorem dM_shareNow_25 : decode bM_shareNow 25 = .ok (.lmul, 1) := by decide +kernel
theorem dM_shareNow_26 : decode bM_shareNow 26 = .ok (.lload_n 1, 1) := by decide +kernel
theorem dM_shareNow_27 : decode bM_shareNow 27 = .ok (.ldiv, 1) := by decide +kernel
theorem dM_shareNow_28 : decode bM_shareNow 28 = .ok (.l2i, 1) := by decide +kernel
theorem dM_shareNow_29 : decode bM_shareNow 29 = .ok (.ireturn, 1) := by decide +kernel
theorem dM_until_0 : decode bM_until 0 = .ok (.iload_n 1, 1) := by decide +kernel
theorem dM_until_1 : decode bM_until 1 = .ok (.i2l, 1) := by decide +kernel
theorem dM_until_2 : decode bM_until 2 = .ok (.lconst 0, 1) := by decide +kernel
theorem dM_until_3 : decode bM_until 3 = .ok (.ldc2_w 65, 3) := by decide +kernel
theorem dM_until_6 : decode bM_until 6 = .ok (.invokestatic 59, 3) := by decide +kernel
theorem dM_until_9 : decode bM_until 9 = .ok (.ifCond .eq 10, 3) := by decide +kernel
theorem dM_until_12 : decode bM_until 12 = .ok (.aload_n 0, 1) := by decide +kernel
theorem dM_until_13 : decode bM_until 13 = .ok (.getfield 79, 3) := by decide +kernel
theorem dM_until_16 : decode bM_until 16 = .ok (.ifCond .ne 5, 3) := by decide +kernel
theorem dM_until_19 : decode bM_until 19 = .ok (.iconst (-1), 1) := by decide +kernel
theorem dM_until_20 : decode bM_until 20 = .ok (.ireturn, 1) := by decide +kernel
theorem dM_until_21 : decode bM_until 21 = .ok (.aload_n 0, 1) := by decide +kernel
theorem dM_until_22 : decode bM_until 22 = .ok (.invokevirtual 130, 3) := by decide +kernel
theorem dM_until_25 : decode bM_until 25 = .ok (.iconst 0, 1) := by decide +kernel
theorem dM_until_26 : decode bM_until 26 = .ok (.istore_n 2, 1) := by decide +kernel
theorem dM_until_27 : decode bM_until 27 = .ok (.iload_n 2, 1) := by decide +kernel
theorem dM_until_28 : decode bM_until 28 = .ok (.sipush 300, 3) := by decide +kernel
theorem dM_until_31 : decode bM_until 31 = .ok (.if_icmp .gt 28, 3) := by decide +kernel
theorem dM_until_34 : decode bM_until 34 = .ok (.aload_n 0, 1) := by decide +kernel
theorem dM_until_35 : decode bM_until 35 = .ok (.invokevirtual 126, 3) := by decide +kernel
theorem dM_until_38 : decode bM_until 38 = .ok (.iload_n 1, 1) := by decide +kernel
theorem dM_until_39 : decode bM_until 39 = .ok (.if_icmp .ge 20, 3) := by decide +kernel
theorem dM_until_42 : decode bM_until 42 = .ok (.aload_n 0, 1) := by decide +kernel
theorem dM_until_43 : decode bM_until 43 = .ok (.aload_n 0, 1) := by decide +kernel
theorem dM_until_44 : decode bM_until 44 = .ok (.getfield 73, 3) := by decide +kernel
theorem dM_until_47 : decode bM_until 47 = .ok (.iload_n 2, 1) := by decide +kernel
theorem dM_until_48 : decode bM_until 48 = .ok (.iadd, 1) := by decide +kernel
theorem dM_until_49 : decode bM_until 49 = .ok (.lconst 0, 1) := by decide +kernel
theorem dM_until_50 : decode bM_until 50 = .ok (.invokevirtual 110, 3) := by decide +kernel
theorem dM_until_53 : decode bM_until 53 = .ok (.iinc 2 1, 3) := by decide +kernel
theorem dM_until_56 : decode bM_until 56 = .ok (.goto (-29), 3) := by decide +kernel
theorem dM_until_59 : decode bM_until 59 = .ok (.aload_n 0, 1) := by decide +kernel
theorem dM_until_60 : decode bM_until 60 = .ok (.invokevirtual 133, 3) := by decide +kernel
theorem dM_until_63 : decode bM_until 63 = .ok (.iload_n 2, 1) := by decide +kernel
theorem dM_until_64 : decode bM_until 64 = .ok (.sipush 300, 3) := by decide +kernel
theorem dM_until_67 : decode bM_until 67 = .ok (.if_icmp .le 7, 3) := by decide +kernel
theorem dM_until_70 : decode bM_until 70 = .ok (.iconst (-1), 1) := by decide +kernel
theorem dM_until_71 : decode bM_until 71 = .ok (.goto 4, 3) := by decide +kernel
theorem dM_until_74 : decode bM_until 74 = .ok (.iload_n 2, 1) := by decide +kernel
theorem dM_until_75 : decode bM_until 75 = .ok (.ireturn, 1) := by decide +kernel
theorem dM_keep_0 : decode bM_keep 0 = .ok (.iconst 0, 1) := by decide +kernel
theorem dM_keep_1 : decode bM_keep 1 = .ok (.istore_n 1, 1) := by decide +kernel
theorem dM_keep_2 : decode bM_keep 2 = .ok (.iload_n 1, 1) := by decide +kernel
theorem dM_keep_3 : decode bM_keep 3 = .ok (.bipush 30, 2) := by decide +kernel
theorem dM_keep_5 : decode bM_keep 5 = .ok (.if_icmp .ge 51, 3) := by decide +kernel
theorem dM_keep_8 : decode bM_keep 8 = .ok (.aload_n 0, 1) := by decide +kernel
theorem dM_keep_9 : decode bM_keep 9 = .ok (.getfield 54, 3) := by decide +kernel
theorem dM_keep_12 : decode bM_keep 12 = .ok (.iload_n 1, 1) := by decide +kernel
theorem dM_keep_13 : decode bM_keep 13 = .ok (.aload_n 0, 1) := by decide +kernel
theorem dM_keep_14 : decode bM_keep 14 = .ok (.getfield 22, 3) := by decide +kernel
theorem dM_keep_17 : decode bM_keep 17 = .ok (.iload_n 1, 1) := by decide +kernel
theorem dM_keep_18 : decode bM_keep 18 = .ok (.laload, 1) := by decide +kernel
theorem dM_keep_19 : decode bM_keep 19 = .ok (.lastore, 1) := by decide +kernel
theorem dM_keep_20 : decode bM_keep 20 = .ok (.aload_n 0, 1) := by decide +kernel
theorem dM_keep_21 : decode bM_keep 21 = .ok (.getfield 54, 3) := by decide +kernel
theorem dM_keep_24 : decode bM_keep 24 = .ok (.bipush 30, 2) := by decide +kernel
theorem dM_keep_26 : decode bM_keep 26 = .ok (.iload_n 1, 1) := by decide +kernel
theorem dM_keep_27 : decode bM_keep 27 = .ok (.iadd, 1) := by decide +kernel
theorem dM_keep_28 : decode bM_keep 28 = .ok (.aload_n 0, 1) := by decide +kernel
theorem dM_keep_29 : decode bM_keep 29 = .ok (.getfield 26, 3) := by decide +kernel
theorem dM_keep_32 : decode bM_keep 32 = .ok (.iload_n 1, 1) := by decide +kernel
theorem dM_keep_33 : decode bM_keep 33 = .ok (.laload, 1) := by decide +kernel
theorem dM_keep_34 : decode bM_keep 34 = .ok (.lastore, 1) := by decide +kernel
theorem dM_keep_35 : decode bM_keep 35 = .ok (.aload_n 0, 1) := by decide +kernel
theorem dM_keep_36 : decode bM_keep 36 = .ok (.getfield 54, 3) := by decide +kernel
theorem dM_keep_39 : decode bM_keep 39 = .ok (.bipush 60, 2) := by decide +kernel
theorem dM_keep_41 : decode bM_keep 41 = .ok (.iload_n 1, 1) := by decide +kernel
theorem dM_keep_42 : decode bM_keep 42 = .ok (.iadd, 1) := by decide +kernel
theorem dM_keep_43 : decode bM_keep 43 = .ok (.aload_n 0, 1) := by decide +kernel
theorem dM_keep_44 : decode bM_keep 44 = .ok (.getfield 29, 3) := by decide +kernel
theorem dM_keep_47 : decode bM_keep 47 = .ok (.iload_n 1, 1) := by decide +kernel
theorem dM_keep_48 : decode bM_keep 48 = .ok (.laload, 1) := by decide +kernel
theorem dM_keep_49 : decode bM_keep 49 = .ok (.lastore, 1) := by decide +kernel
theorem dM_keep_50 : decode bM_keep 50 = .ok (.iinc 1 1, 3) := by decide +kernel
theorem dM_keep_53 : decode bM_keep 53 = .ok (.goto (-51), 3) := by decide +kernel
theorem dM_keep_56 : decode bM_keep 56 = .ok (.aload_n 0, 1) := by decide +kernel
theorem dM_keep_57 : decode bM_keep 57 = .ok (.getfield 54, 3) := by decide +kernel
theorem dM_keep_60 : decode bM_keep 60 = .ok (.bipush 90, 2) := by decide +kernel
theorem dM_keep_62 : decode bM_keep 62 = .ok (.aload_n 0, 1) := by decide +kernel
theorem dM_keep_63 : decode bM_keep 63 = .ok (.getfield 98, 3) := by decide +kernel
theorem dM_keep_66 : decode bM_keep 66 = .ok (.lastore, 1) := by decide +kernel
theorem dM_keep_67 : decode bM_keep 67 = .ok (.aload_n 0, 1) := by decide +kernel
theorem dM_keep_68 : decode bM_keep 68 = .ok (.getfield 54, 3) := by decide +kernel
theorem dM_keep_71 : decode bM_keep 71 = .ok (.bipush 91, 2) := by decide +kernel
theorem dM_keep_73 : decode bM_keep 73 = .ok (.aload_n 0, 1) := by decide +kernel
theorem dM_keep_74 : decode bM_keep 74 = .ok (.getfield 94, 3) := by decide +kernel
theorem dM_keep_77 : decode bM_keep 77 = .ok (.lastore, 1) := by decide +kernel
theorem dM_keep_78 : decode bM_keep 78 = .ok (.return_, 1) := by decide +kernel
theorem dM_putBack_0 : decode bM_putBack 0 = .ok (.iconst 0, 1) := by decide +kernel
theorem dM_putBack_1 : decode bM_putBack 1 = .ok (.istore_n 1, 1) := by decide +kernel
theorem dM_putBack_2 : decode bM_putBack 2 = .ok (.iload_n 1, 1) := by decide +kernel
theorem dM_putBack_3 : decode bM_putBack 3 = .ok (.bipush 30, 2) := by decide +kernel
theorem dM_putBack_5 : decode bM_putBack 5 = .ok (.if_icmp .ge 51, 3) := by decide +kernel
theorem dM_putBack_8 : decode bM_putBack 8 = .ok (.aload_n 0, 1) := by decide +kernel
theorem dM_putBack_9 : decode bM_putBack 9 = .ok (.getfield 22, 3) := by decide +kernel
theorem dM_putBack_12 : decode bM_putBack 12 = .ok (.iload_n 1, 1) := by decide +kernel
theorem dM_putBack_13 : decode bM_putBack 13 = .ok (.aload_n 0, 1) := by decide +kernel
theorem dM_putBack_14 : decode bM_putBack 14 = .ok (.getfield 54, 3) := by decide +kernel
theorem dM_putBack_17 : decode bM_putBack 17 = .ok (.iload_n 1, 1) := by decide +kernel
theorem dM_putBack_18 : decode bM_putBack 18 = .ok (.laload, 1) := by decide +kernel
theorem dM_putBack_19 : decode bM_putBack 19 = .ok (.lastore, 1) := by decide +kernel
theorem dM_putBack_20 : decode bM_putBack 20 = .ok (.aload_n 0, 1) := by decide +kernel
theorem dM_putBack_21 : decode bM_putBack 21 = .ok (.getfield 26, 3) := by decide +kernel
theorem dM_putBack_24 : decode bM_putBack 24 = .ok (.iload_n 1, 1) := by decide +kernel
theorem dM_putBack_25 : decode bM_putBack 25 = .ok (.aload_n 0, 1) := by decide +kernel
theorem dM_putBack_26 : decode bM_putBack 26 = .ok (.getfield 54, 3) := by decide +kernel
theorem dM_putBack_29 : decode bM_putBack 29 = .ok (.bipush 30, 2) := by decide +kernel
theorem dM_putBack_31 : decode bM_putBack 31 = .ok (.iload_n 1, 1) := by decide +kernel
theorem dM_putBack_32 : decode bM_putBack 32 = .ok (.iadd, 1) := by decide +kernel
theorem dM_putBack_33 : decode bM_putBack 33 = .ok (.laload, 1) := by decide +kernel
theorem dM_putBack_34 : decode bM_putBack 34 = .ok (.lastore, 1) := by decide +kernel
theorem dM_putBack_35 : decode bM_putBack 35 = .ok (.aload_n 0, 1) := by decide +kernel
theorem dM_putBack_36 : decode bM_putBack 36 = .ok (.getfield 29, 3) := by decide +kernel
theorem dM_putBack_39 : decode bM_putBack 39 = .ok (.iload_n 1, 1) := by decide +kernel
theorem dM_putBack_40 : decode bM_putBack 40 = .ok (.aload_n 0, 1) := by decide +kernel
theorem dM_putBack_41 : decode bM_putBack 41 = .ok (.getfield 54, 3) := by decide +kernel
theorem dM_putBack_44 : decode bM_putBack 44 = .ok (.bipush 60, 2) := by decide +kernel
theorem dM_putBack_46 : decode bM_putBack 46 = .ok (.iload_n 1, 1) := by decide +kernel
theorem dM_putBack_47 : decode bM_putBack 47 = .ok (.iadd, 1) := by decide +kernel
theorem dM_putBack_48 : decode bM_putBack 48 = .ok (.laload, 1) := by decide +kernel
theorem dM_putBack_49 : decode bM_putBack 49 = .ok (.lastore, 1) := by decide +kernel
theorem dM_putBack_50 : decode bM_putBack 50 = .ok (.iinc 1 1, 3) := by decide +kernel
theorem dM_putBack_53 : decode bM_putBack 53 = .ok (.goto (-51), 3) := by decide +kernel
theorem dM_putBack_56 : decode bM_putBack 56 = .ok (.aload_n 0, 1) := by decide +kernel
theorem dM_putBack_57 : decode bM_putBack 57 = .ok (.aload_n 0, 1) := by decide +kernel
theorem dM_putBack_58 : decode bM_putBack 58 = .ok (.getfield 54, 3) := by decide +kernel
theorem dM_putBack_61 : decode bM_putBack 61 = .ok (.bipush 90, 2) := by decide +kernel
theorem dM_putBack_63 : decode bM_putBack 63 = .ok (.laload, 1) := by decide +kernel
theorem dM_putBack_64 : decode bM_putBack 64 = .ok (.putfield 98, 3) := by decide +kernel
theorem dM_putBack_67 : decode bM_putBack 67 = .ok (.aload_n 0, 1) := by decide +kernel
theorem dM_putBack_68 : decode bM_putBack 68 = .ok (.aload_n 0, 1) := by decide +kernel
theorem dM_putBack_69 : decode bM_putBack 69 = .ok (.getfield 54, 3) := by decide +kernel
theorem dM_putBack_72 : decode bM_putBack 72 = .ok (.bipush 91, 2) := by decide +kernel
theorem dM_putBack_74 : decode bM_putBack 74 = .ok (.laload, 1) := by decide +kernel
theorem dM_putBack_75 : decode bM_putBack 75 = .ok (.putfield 94, 3) := by decide +kernel
theorem dM_putBack_78 : decode bM_putBack 78 = .ok (.return_, 1) := by decide +kernel
theorem dM_surcharge_0 : decode bM_surcharge 0 = .ok (.iload_n 1, 1) := by decide +kernel
theorem dM_surcharge_1 : decode bM_surcharge 1 = .ok (.i2l, 1) := by decide +kernel
theorem dM_surcharge_2 : decode bM_surcharge 2 = .ok (.lconst 1, 1) := by decide +kernel
theorem dM_surcharge_3 : decode bM_surcharge 3 = .ok (.ldc2_w 136, 3) := by decide +kernel
theorem dM_surcharge_6 : decode bM_surcharge 6 = .ok (.invokestatic 59, 3) := by decide +kernel
theorem dM_surcharge_9 : decode bM_surcharge 9 = .ok (.ifCond .eq 22, 3) := by decide +kernel
theorem dM_surcharge_12 : decode bM_surcharge 12 = .ok (.iload_n 2, 1) := by decide +kernel
theorem dM_surcharge_13 : decode bM_surcharge 13 = .ok (.i2l, 1) := by decide +kernel
theorem dM_surcharge_14 : decode bM_surcharge 14 = .ok (.lconst 1, 1) := by decide +kernel
theorem dM_surcharge_15 : decode bM_surcharge 15 = .ok (.ldc2_w 138, 3) := by decide +kernel
theorem dM_surcharge_18 : decode bM_surcharge 18 = .ok (.invokestatic 59, 3) := by decide +kernel
theorem dM_surcharge_21 : decode bM_surcharge 21 = .ok (.ifCond .eq 10, 3) := by decide +kernel
theorem dM_surcharge_24 : decode bM_surcharge 24 = .ok (.aload_n 0, 1) := by decide +kernel
theorem dM_surcharge_25 : decode bM_surcharge 25 = .ok (.getfield 79, 3) := by decide +kernel
theorem dM_surcharge_28 : decode bM_surcharge 28 = .ok (.ifCond .ne 5, 3) := by decide +kernel
theorem dM_surcharge_31 : decode bM_surcharge 31 = .ok (.iconst (-1), 1) := by decide +kernel
theorem dM_surcharge_32 : decode bM_surcharge 32 = .ok (.ireturn, 1) := by decide +kernel
theorem dM_surcharge_33 : decode bM_surcharge 33 = .ok (.aload_n 0, 1) := by decide +kernel
theorem dM_surcharge_34 : decode bM_surcharge 34 = .ok (.invokevirtual 122, 3) := by decide +kernel
theorem dM_surcharge_37 : decode bM_surcharge 37 = .ok (.lstore_n 3, 1) := by decide +kernel
theorem dM_surcharge_38 : decode bM_surcharge 38 = .ok (.iconst 0, 1) := by decide +kernel
theorem dM_surcharge_39 : decode bM_surcharge 39 = .ok (.istore 5, 2) := by decide +kernel
theorem dM_surcharge_41 : decode bM_surcharge 41 = .ok (.iload 5, 2) := by decide +kernel
theorem dM_surcharge_43 : decode bM_surcharge 43 = .ok (.bipush 20, 2) := by decide +kernel
theorem dM_surcharge_45 : decode bM_surcharge 45 = .ok (.if_icmp .gt 85, 3) := by decide +kernel
theorem dM_surcharge_48 : decode bM_surcharge 48 = .ok (.aload_n 0, 1) := by decide +kernel
theorem dM_surcharge_49 : decode bM_surcharge 49 = .ok (.invokevirtual 130, 3) := by decide +kernel
theorem dM_surcharge_52 : decode bM_surcharge 52 = .ok (.iconst 0, 1) := by decide +kernel
theorem dM_surcharge_53 : decode bM_surcharge 53 = .ok (.istore 6, 2) := by decide +kernel
theorem dM_surcharge_55 : decode bM_surcharge 55 = .ok (.iload 6, 2) := by decide +kernel
theorem dM_surcharge_57 : decode bM_surcharge 57 = .ok (.iload_n 2, 1) := by decide +kernel
theorem dM_surcharge_58 : decode bM_surcharge 58 = .ok (.if_icmp .ge 35, 3) := by decide +kernel
theorem dM_surcharge_61 : decode bM_surcharge 61 = .ok (.aload_n 0, 1) := by decide +kernel
theorem dM_surcharge_62 : decode bM_surcharge 62 = .ok (.aload_n 0, 1) := by decide +kernel
theorem dM_surcharge_63 : decode bM_surcharge 63 = .ok (.getfield 73, 3) := by decide +kernel
theorem dM_surcharge_66 : decode bM_surcharge 66 = .ok (.iload 6, 2) := by decide +kernel
theorem dM_surcharge_68 : decode bM_surcharge 68 = .ok (.iadd, 1) := by decide +kernel
theorem dM_surcharge_69 : decode bM_surcharge 69 = .ok (.iload 6, 2) := by decide +kernel
theorem dM_surcharge_71 : decode bM_surcharge 71 = .ok (.ifCond .ne 12, 3) := by decide +kernel
theorem dM_surcharge_74 : decode bM_surcharge 74 = .ok (.iload 5, 2) := by decide +kernel
theorem dM_surcharge_76 : decode bM_surcharge 76 = .ok (.i2l, 1) := by decide +kernel
theorem dM_surcharge_77 : decode bM_surcharge 77 = .ok (.iload_n 1, 1) := by decide +kernel
theorem dM_surcharge_78 : decode bM_surcharge 78 = .ok (.i2l, 1) := by decide +kernel
theorem dM_surcharge_79 : decode bM_surcharge 79 = .ok (.lmul, 1) := by decide +kernel
theorem dM_surcharge_80 : decode bM_surcharge 80 = .ok (.goto 4, 3) := by decide +kernel
theorem dM_surcharge_83 : decode bM_surcharge 83 = .ok (.lconst 0, 1) := by decide +kernel
theorem dM_surcharge_84 : decode bM_surcharge 84 = .ok (.invokevirtual 110, 3) := by decide +kernel
theorem dM_surcharge_87 : decode bM_surcharge 87 = .ok (.iinc 6 1, 3) := by decide +kernel
theorem dM_surcharge_90 : decode bM_surcharge 90 = .ok (.goto (-35), 3) := by decide +kernel
theorem dM_surcharge_93 : decode bM_surcharge 93 = .ok (.aload_n 0, 1) := by decide +kernel
theorem dM_surcharge_94 : decode bM_surcharge 94 = .ok (.iconst (-1), 1) := by decide +kernel
theorem dM_surcharge_95 : decode bM_surcharge 95 = .ok (.invokevirtual 114, 3) := by decide +kernel
theorem dM_surcharge_98 : decode bM_surcharge 98 = .ok (.lload_n 3, 1) := by decide +kernel
theorem dM_surcharge_99 : decode bM_surcharge 99 = .ok (.lcmp, 1) := by decide +kernel
theorem dM_surcharge_100 : decode bM_surcharge 100 = .ok (.ifCond .lt 7, 3) := by decide +kernel
theorem dM_surcharge_103 : decode bM_surcharge 103 = .ok (.iconst 1, 1) := by decide +kernel
theorem dM_surcharge_104 : decode bM_surcharge 104 = .ok (.goto 4, 3) := by decide +kernel
theorem dM_surcharge_107 : decode bM_surcharge 107 = .ok (.iconst 0, 1) := by decide +kernel
theorem dM_surcharge_108 : decode bM_surcharge 108 = .ok (.istore 6, 2) := by decide +kernel
theorem dM_surcharge_110 : decode bM_surcharge 110 = .ok (.aload_n 0, 1) := by decide +kernel
theorem dM_surcharge_111 : decode bM_surcharge 111 = .ok (.invokevirtual 133, 3) := by decide +kernel
theorem dM_surcharge_114 : decode bM_surcharge 114 = .ok (.iload 6, 2) := by decide +kernel
theorem dM_surcharge_116 : decode bM_surcharge 116 = .ok (.ifCond .eq 8, 3) := by decide +kernel
theorem dM_surcharge_119 : decode bM_surcharge 119 = .ok (.iload 5, 2) := by decide +kernel
theorem dM_surcharge_121 : decode bM_surcharge 121 = .ok (.iload_n 1, 1) := by decide +kernel
theorem dM_surcharge_122 : decode bM_surcharge 122 = .ok (.imul, 1) := by decide +kernel
theorem dM_surcharge_123 : decode bM_surcharge 123 = .ok (.ireturn, 1) := by decide +kernel
theorem dM_surcharge_124 : decode bM_surcharge 124 = .ok (.iinc 5 1, 3) := by decide +kernel
theorem dM_surcharge_127 : decode bM_surcharge 127 = .ok (.goto (-86), 3) := by decide +kernel
theorem dM_surcharge_130 : decode bM_surcharge 130 = .ok (.iconst (-1), 1) := by decide +kernel
theorem dM_surcharge_131 : decode bM_surcharge 131 = .ok (.ireturn, 1) := by decide +kernel
theorem dM_read_0 : decode bM_read 0 = .ok (.aload_n 0, 1) := by decide +kernel
theorem dM_read_1 : decode bM_read 1 = .ok (.getfield 140, 3) := by decide +kernel
theorem dM_read_4 : decode bM_read 4 = .ok (.ifCond .ne 7, 3) := by decide +kernel
theorem dM_read_7 : decode bM_read 7 = .ok (.iconst 0, 1) := by decide +kernel
theorem dM_read_8 : decode bM_read 8 = .ok (.goto 16, 3) := by decide +kernel
theorem dM_read_11 : decode bM_read 11 = .ok (.aload_n 0, 1) := by decide +kernel
theorem dM_read_12 : decode bM_read 12 = .ok (.getfield 42, 3) := by decide +kernel
theorem dM_read_15 : decode bM_read 15 = .ok (.aload_n 0, 1) := by decide +kernel
theorem dM_read_16 : decode bM_read 16 = .ok (.getfield 140, 3) := by decide +kernel
theorem dM_read_19 : decode bM_read 19 = .ok (.iconst 1, 1) := by decide +kernel
theorem dM_read_20 : decode bM_read 20 = .ok (.isub, 1) := by decide +kernel
theorem dM_read_21 : decode bM_read 21 = .ok (.iaload, 1) := by decide +kernel
theorem dM_read_22 : decode bM_read 22 = .ok (.iconst 1, 1) := by decide +kernel
theorem dM_read_23 : decode bM_read 23 = .ok (.iadd, 1) := by decide +kernel
theorem dM_read_24 : decode bM_read 24 = .ok (.istore 4, 2) := by decide +kernel
theorem dM_read_26 : decode bM_read 26 = .ok (.iload_n 1, 1) := by decide +kernel
theorem dM_read_27 : decode bM_read 27 = .ok (.i2l, 1) := by decide +kernel
theorem dM_read_28 : decode bM_read 28 = .ok (.iload 4, 2) := by decide +kernel
theorem dM_read_30 : decode bM_read 30 = .ok (.i2l, 1) := by decide +kernel
theorem dM_read_31 : decode bM_read 31 = .ok (.ldc2_w 143, 3) := by decide +kernel
theorem dM_read_34 : decode bM_read 34 = .ok (.invokestatic 59, 3) := by decide +kernel
theorem dM_read_37 : decode bM_read 37 = .ok (.ifCond .eq 23, 3) := by decide +kernel
theorem dM_read_40 : decode bM_read 40 = .ok (.lload_n 2, 1) := by decide +kernel
theorem dM_read_41 : decode bM_read 41 = .ok (.lconst 0, 1) := by decide +kernel
theorem dM_read_42 : decode bM_read 42 = .ok (.ldc2_w 145, 3) := by decide +kernel
theorem dM_read_45 : decode bM_read 45 = .ok (.invokestatic 59, 3) := by decide +kernel
theorem dM_read_48 : decode bM_read 48 = .ok (.ifCond .eq 12, 3) := by decide +kernel
theorem dM_read_51 : decode bM_read 51 = .ok (.aload_n 0, 1) := by decide +kernel
theorem dM_read_52 : decode bM_read 52 = .ok (.getfield 140, 3) := by decide +kernel
theorem dM_read_55 : decode bM_read 55 = .ok (.bipush 20, 2) := by decide +kernel
theorem dM_read_57 : decode bM_read 57 = .ok (.if_icmp .ne 5, 3) := by decide +kernel
theorem dM_read_60 : decode bM_read 60 = .ok (.iconst (-1), 1) := by decide +kernel
theorem dM_read_61 : decode bM_read 61 = .ok (.ireturn, 1) := by decide +kernel
theorem dM_read_62 : decode bM_read 62 = .ok (.aload_n 0, 1) := by decide +kernel
theorem dM_read_63 : decode bM_read 63 = .ok (.getfield 42, 3) := by decide +kernel
theorem dM_read_66 : decode bM_read 66 = .ok (.aload_n 0, 1) := by decide +kernel
theorem dM_read_67 : decode bM_read 67 = .ok (.getfield 140, 3) := by decide +kernel
theorem dM_read_70 : decode bM_read 70 = .ok (.iload_n 1, 1) := by decide +kernel
theorem dM_read_71 : decode bM_read 71 = .ok (.iastore, 1) := by decide +kernel
theorem dM_read_72 : decode bM_read 72 = .ok (.aload_n 0, 1) := by decide +kernel
theorem dM_read_73 : decode bM_read 73 = .ok (.getfield 45, 3) := by decide +kernel
theorem dM_read_76 : decode bM_read 76 = .ok (.aload_n 0, 1) := by decide +kernel
theorem dM_read_77 : decode bM_read 77 = .ok (.getfield 140, 3) := by decide +kernel
theorem dM_read_80 : decode bM_read 80 = .ok (.lload_n 2, 1) := by decide +kernel
theorem dM_read_81 : decode bM_read 81 = .ok (.lastore, 1) := by decide +kernel
theorem dM_read_82 : decode bM_read 82 = .ok (.aload_n 0, 1) := by decide +kernel
theorem dM_read_83 : decode bM_read 83 = .ok (.dup, 1) := by decide +kernel
theorem dM_read_84 : decode bM_read 84 = .ok (.getfield 140, 3) := by decide +kernel
theorem dM_read_87 : decode bM_read 87 = .ok (.iconst 1, 1) := by decide +kernel
theorem dM_read_88 : decode bM_read 88 = .ok (.iadd, 1) := by decide +kernel
theorem dM_read_89 : decode bM_read 89 = .ok (.putfield 140, 3) := by decide +kernel
theorem dM_read_92 : decode bM_read 92 = .ok (.aload_n 0, 1) := by decide +kernel
theorem dM_read_93 : decode bM_read 93 = .ok (.getfield 140, 3) := by decide +kernel
theorem dM_read_96 : decode bM_read 96 = .ok (.ireturn, 1) := by decide +kernel
theorem dM_foretold_0 : decode bM_foretold 0 = .ok (.iload_n 1, 1) := by decide +kernel
theorem dM_foretold_1 : decode bM_foretold 1 = .ok (.i2l, 1) := by decide +kernel
theorem dM_foretold_2 : decode bM_foretold 2 = .ok (.lconst 0, 1) := by decide +kernel
theorem dM_foretold_3 : decode bM_foretold 3 = .ok (.ldc2_w 120, 3) := by decide +kernel
theorem dM_foretold_6 : decode bM_foretold 6 = .ok (.invokestatic 59, 3) := by decide +kernel
theorem dM_foretold_9 : decode bM_foretold 9 = .ok (.ifCond .eq 19, 3) := by decide +kernel
theorem dM_foretold_12 : decode bM_foretold 12 = .ok (.aload_n 0, 1) := by decide +kernel
theorem dM_foretold_13 : decode bM_foretold 13 = .ok (.getfield 140, 3) := by decide +kernel
theorem dM_foretold_16 : decode bM_foretold 16 = .ok (.iload_n 1, 1) := by decide +kernel
theorem dM_foretold_17 : decode bM_foretold 17 = .ok (.ifCond .ne 7, 3) := by decide +kernel
theorem dM_foretold_20 : decode bM_foretold 20 = .ok (.iconst 3, 1) := by decide +kernel
theorem dM_foretold_21 : decode bM_foretold 21 = .ok (.goto 4, 3) := by decide +kernel
theorem dM_foretold_24 : decode bM_foretold 24 = .ok (.iconst 2, 1) := by decide +kernel
theorem dM_foretold_25 : decode bM_foretold 25 = .ok (.if_icmp .ge 7, 3) := by decide +kernel
theorem dM_foretold_28 : decode bM_foretold 28 = .ok (.ldc2_w 118, 3) := by decide +kernel
theorem dM_foretold_31 : decode bM_foretold 31 = .ok (.lreturn, 1) := by decide +kernel
theorem dM_foretold_32 : decode bM_foretold 32 = .ok (.aload_n 0, 1) := by decide +kernel
theorem dM_foretold_33 : decode bM_foretold 33 = .ok (.getfield 140, 3) := by decide +kernel
theorem dM_foretold_36 : decode bM_foretold 36 = .ok (.istore_n 2, 1) := by decide +kernel
theorem dM_foretold_37 : decode bM_foretold 37 = .ok (.aload_n 0, 1) := by decide +kernel
theorem dM_foretold_38 : decode bM_foretold 38 = .ok (.getfield 45, 3) := by decide +kernel
theorem dM_foretold_41 : decode bM_foretold 41 = .ok (.iload_n 2, 1) := by decide +kernel
theorem dM_foretold_42 : decode bM_foretold 42 = .ok (.iconst 1, 1) := by decide +kernel
theorem dM_foretold_43 : decode bM_foretold 43 = .ok (.isub, 1) := by decide +kernel
theorem dM_foretold_44 : decode bM_foretold 44 = .ok (.laload, 1) := by decide +kernel
theorem dM_foretold_45 : decode bM_foretold 45 = .ok (.lstore_n 3, 1) := by decide +kernel
theorem dM_foretold_46 : decode bM_foretold 46 = .ok (.iload_n 1, 1) := by decide +kernel
theorem dM_foretold_47 : decode bM_foretold 47 = .ok (.iconst 2, 1) := by decide +kernel
theorem dM_foretold_48 : decode bM_foretold 48 = .ok (.if_icmp .ne 12, 3) := by decide +kernel
theorem dM_foretold_51 : decode bM_foretold 51 = .ok (.aload_n 0, 1) := by decide +kernel
theorem dM_foretold_52 : decode bM_foretold 52 = .ok (.getfield 45, 3) := by decide +kernel
theorem dM_foretold_55 : decode bM_foretold 55 = .ok (.iconst 0, 1) := by decide +kernel
theorem dM_foretold_56 : decode bM_foretold 56 = .ok (.laload, 1) := by decide +kernel
theorem dM_foretold_57 : decode bM_foretold 57 = .ok (.goto 11, 3) := by decide +kernel
theorem dM_foretold_60 : decode bM_foretold 60 = .ok (.aload_n 0, 1) := by decide +kernel
theorem dM_foretold_61 : decode bM_foretold 61 = .ok (.getfield 45, 3) := by decide +kernel
theorem dM_foretold_64 : decode bM_foretold 64 = .ok (.iload_n 2, 1) := by decide +kernel
theorem dM_foretold_65 : decode bM_foretold 65 = .ok (.iconst 2, 1) := by decide +kernel
theorem dM_foretold_66 : decode bM_foretold 66 = .ok (.isub, 1) := by decide +kernel
theorem dM_foretold_67 : decode bM_foretold 67 = .ok (.laload, 1) := by decide +kernel
theorem dM_foretold_68 : decode bM_foretold 68 = .ok (.lstore 5, 2) := by decide +kernel
theorem dM_foretold_70 : decode bM_foretold 70 = .ok (.iload_n 1, 1) := by decide +kernel
theorem dM_foretold_71 : decode bM_foretold 71 = .ok (.ifCond .ne 14, 3) := by decide +kernel
theorem dM_foretold_74 : decode bM_foretold 74 = .ok (.aload_n 0, 1) := by decide +kernel
theorem dM_foretold_75 : decode bM_foretold 75 = .ok (.getfield 45, 3) := by decide +kernel
theorem dM_foretold_78 : decode bM_foretold 78 = .ok (.iload_n 2, 1) := by decide +kernel
theorem dM_foretold_79 : decode bM_foretold 79 = .ok (.iconst 3, 1) := by decide +kernel
theorem dM_foretold_80 : decode bM_foretold 80 = .ok (.isub, 1) := by decide +kernel
theorem dM_foretold_81 : decode bM_foretold 81 = .ok (.laload, 1) := by decide +kernel
theorem dM_foretold_82 : decode bM_foretold 82 = .ok (.goto 4, 3) := by decide +kernel
theorem dM_foretold_85 : decode bM_foretold 85 = .ok (.lconst 0, 1) := by decide +kernel
theorem dM_foretold_86 : decode bM_foretold 86 = .ok (.lstore 7, 2) := by decide +kernel
theorem dM_foretold_88 : decode bM_foretold 88 = .ok (.lload 7, 2) := by decide +kernel
theorem dM_foretold_90 : decode bM_foretold 90 = .ok (.ldc2_w 147, 3) := by decide +kernel
theorem dM_foretold_93 : decode bM_foretold 93 = .ok (.lcmp, 1) := by decide +kernel
theorem dM_foretold_94 : decode bM_foretold 94 = .ok (.ifCond .gt 20, 3) := by decide +kernel
theorem dM_foretold_97 : decode bM_foretold 97 = .ok (.lload 5, 2) := by decide +kernel
theorem dM_foretold_99 : decode bM_foretold 99 = .ok (.ldc2_w 147, 3) := by decide +kernel
theorem dM_foretold_102 : decode bM_foretold 102 = .ok (.lcmp, 1) := by decide +kernel
theorem dM_foretold_103 : decode bM_foretold 103 = .ok (.ifCond .gt 11, 3) := by decide +kernel
theorem dM_foretold_106 : decode bM_foretold 106 = .ok (.lload_n 3, 1) := by decide +kernel
theorem dM_foretold_107 : decode bM_foretold 107 = .ok (.ldc2_w 147, 3) := by decide +kernel
theorem dM_foretold_110 : decode bM_foretold 110 = .ok (.lcmp, 1) := by decide +kernel
theorem dM_foretold_111 : decode bM_foretold 111 = .ok (.ifCond .le 7, 3) := by decide +kernel
theorem dM_foretold_114 : decode bM_foretold 114 = .ok (.ldc2_w 118, 3) := by decide +kernel
theorem dM_foretold_117 : decode bM_foretold 117 = .ok (.lreturn, 1) := by decide +kernel
theorem dM_foretold_118 : decode bM_foretold 118 = .ok (.iload_n 1, 1) := by decide +kernel
theorem dM_foretold_119 : decode bM_foretold 119 = .ok (.ifCond .ne 43, 3) := by decide +kernel
theorem dM_foretold_122 : decode bM_foretold 122 = .ok (.ldc2_w 120, 3) := by decide +kernel
theorem dM_foretold_125 : decode bM_foretold 125 = .ok (.lload 5, 2) := by decide +kernel
theorem dM_foretold_127 : decode bM_foretold 127 = .ok (.lmul, 1) := by decide +kernel
theorem dM_foretold_128 : decode bM_foretold 128 = .ok (.lload 7, 2) := by decide +kernel
theorem dM_foretold_130 : decode bM_foretold 130 = .ok (.lsub, 1) := by decide +kernel
theorem dM_foretold_131 : decode bM_foretold 131 = .ok (.lload_n 3, 1) := by decide +kernel
theorem dM_foretold_132 : decode bM_foretold 132 = .ok (.lsub, 1) := by decide +kernel
theorem dM_foretold_133 : decode bM_foretold 133 = .ok (.lstore 9, 2) := by decide +kernel
theorem dM_foretold_135 : decode bM_foretold 135 = .ok (.lload 9, 2) := by decide +kernel
theorem dM_foretold_137 : decode bM_foretold 137 = .ok (.lconst 0, 1) := by decide +kernel
theorem dM_foretold_138 : decode bM_foretold 138 = .ok (.lcmp, 1) := by decide +kernel
theorem dM_foretold_139 : decode bM_foretold 139 = .ok (.ifCond .ne 9, 3) := by decide +kernel
theorem dM_foretold_142 : decode bM_foretold 142 = .ok (.ldc2_w 118, 3) := by decide +kernel
theorem dM_foretold_145 : decode bM_foretold 145 = .ok (.goto 16, 3) := by decide +kernel
theorem dM_foretold_148 : decode bM_foretold 148 = .ok (.lload 5, 2) := by decide +kernel
theorem dM_foretold_150 : decode bM_foretold 150 = .ok (.lload 5, 2) := by decide +kernel
theorem dM_foretold_152 : decode bM_foretold 152 = .ok (.lmul, 1) := by decide +kernel
theorem dM_foretold_153 : decode bM_foretold 153 = .ok (.lload 7, 2) := by decide +kernel
theorem dM_foretold_155 : decode bM_foretold 155 = .ok (.lload_n 3, 1) := by decide +kernel
theorem dM_foretold_156 : decode bM_foretold 156 = .ok (.lmul, 1) := by decide +kernel
theorem dM_foretold_157 : decode bM_foretold 157 = .ok (.lsub, 1) := by decide +kernel
theorem dM_foretold_158 : decode bM_foretold 158 = .ok (.lload 9, 2) := by decide +kernel
theorem dM_foretold_160 : decode bM_foretold 160 = .ok (.ldiv, 1) := by decide +kernel
theorem dM_foretold_161 : decode bM_foretold 161 = .ok (.lreturn, 1) := by decide +kernel
theorem dM_foretold_162 : decode bM_foretold 162 = .ok (.iload_n 1, 1) := by decide +kernel
theorem dM_foretold_163 : decode bM_foretold 163 = .ok (.iconst 1, 1) := by decide +kernel
theorem dM_foretold_164 : decode bM_foretold 164 = .ok (.if_icmp .ne 64, 3) := by decide +kernel
theorem dM_foretold_167 : decode bM_foretold 167 = .ok (.aload_n 0, 1) := by decide +kernel
theorem dM_foretold_168 : decode bM_foretold 168 = .ok (.getfield 42, 3) := by decide +kernel
theorem dM_foretold_171 : decode bM_foretold 171 = .ok (.iload_n 2, 1) := by decide +kernel
theorem dM_foretold_172 : decode bM_foretold 172 = .ok (.iconst 2, 1) := by decide +kernel
theorem dM_foretold_173 : decode bM_foretold 173 = .ok (.isub, 1) := by decide +kernel
theorem dM_foretold_174 : decode bM_foretold 174 = .ok (.iaload, 1) := by decide +kernel
theorem dM_foretold_175 : decode bM_foretold 175 = .ok (.i2l, 1) := by decide +kernel
theorem dM_foretold_176 : decode bM_foretold 176 = .ok (.lstore 9, 2) := by decide +kernel
theorem dM_foretold_178 : decode bM_foretold 178 = .ok (.aload_n 0, 1) := by decide +kernel
theorem dM_foretold_179 : decode bM_foretold 179 = .ok (.getfield 42, 3) := by decide +kernel
theorem dM_foretold_182 : decode bM_foretold 182 = .ok (.iload_n 2, 1) := by decide +kernel
theorem dM_foretold_183 : decode bM_foretold 183 = .ok (.iconst 1, 1) := by decide +kernel
theorem dM_foretold_184 : decode bM_foretold 184 = .ok (.isub, 1) := by decide +kernel
theorem dM_foretold_185 : decode bM_foretold 185 = .ok (.iaload, 1) := by decide +kernel
theorem dM_foretold_186 : decode bM_foretold 186 = .ok (.i2l, 1) := by decide +kernel
theorem dM_foretold_187 : decode bM_foretold 187 = .ok (.lstore 11, 2) := by decide +kernel
theorem dM_foretold_189 : decode bM_foretold 189 = .ok (.lload 11, 2) := by decide +kernel
theorem dM_foretold_191 : decode bM_foretold 191 = .ok (.lload 5, 2) := by decide +kernel
theorem dM_foretold_193 : decode bM_foretold 193 = .ok (.lmul, 1) := by decide +kernel
theorem dM_foretold_194 : decode bM_foretold 194 = .ok (.lload 9, 2) := by decide +kernel
theorem dM_foretold_196 : decode bM_foretold 196 = .ok (.lload_n 3, 1) := by decide +kernel
theorem dM_foretold_197 : decode bM_foretold 197 = .ok (.lmul, 1) := by decide +kernel
theorem dM_foretold_198 : decode bM_foretold 198 = .ok (.lsub, 1) := by decide +kernel
theorem dM_foretold_199 : decode bM_foretold 199 = .ok (.lstore 13, 2) := by decide +kernel
theorem dM_foretold_201 : decode bM_foretold 201 = .ok (.lload 13, 2) := by decide +kernel
theorem dM_foretold_203 : decode bM_foretold 203 = .ok (.lconst 0, 1) := by decide +kernel
theorem dM_foretold_204 : decode bM_foretold 204 = .ok (.lcmp, 1) := by decide +kernel
theorem dM_foretold_205 : decode bM_foretold 205 = .ok (.ifCond .ne 9, 3) := by decide +kernel
theorem dM_foretold_208 : decode bM_foretold 208 = .ok (.ldc2_w 118, 3) := by decide +kernel
theorem dM_foretold_211 : decode bM_foretold 211 = .ok (.goto 16, 3) := by decide +kernel
theorem dM_foretold_214 : decode bM_foretold 214 = .ok (.lload 11, 2) := by decide +kernel
theorem dM_foretold_216 : decode bM_foretold 216 = .ok (.lload 9, 2) := by decide +kernel
theorem dM_foretold_218 : decode bM_foretold 218 = .ok (.lsub, 1) := by decide +kernel
theorem dM_foretold_219 : decode bM_foretold 219 = .ok (.lload 5, 2) := by decide +kernel
theorem dM_foretold_221 : decode bM_foretold 221 = .ok (.lmul, 1) := by decide +kernel
theorem dM_foretold_222 : decode bM_foretold 222 = .ok (.lload_n 3, 1) := by decide +kernel
theorem dM_foretold_223 : decode bM_foretold 223 = .ok (.lmul, 1) := by decide +kernel
theorem dM_foretold_224 : decode bM_foretold 224 = .ok (.lload 13, 2) := by decide +kernel
theorem dM_foretold_226 : decode bM_foretold 226 = .ok (.ldiv, 1) := by decide +kernel
theorem dM_foretold_227 : decode bM_foretold 227 = .ok (.lreturn, 1) := by decide +kernel
theorem dM_foretold_228 : decode bM_foretold 228 = .ok (.lload_n 3, 1) := by decide +kernel
theorem dM_foretold_229 : decode bM_foretold 229 = .ok (.lload_n 3, 1) := by decide +kernel
theorem dM_foretold_230 : decode bM_foretold 230 = .ok (.lload 5, 2) := by decide +kernel
theorem dM_foretold_232 : decode bM_foretold 232 = .ok (.lsub, 1) := by decide +kernel
theorem dM_foretold_233 : decode bM_foretold 233 = .ok (.ldc2_w 138, 3) := by decide +kernel
theorem dM_foretold_236 : decode bM_foretold 236 = .ok (.lmul, 1) := by decide +kernel
theorem dM_foretold_237 : decode bM_foretold 237 = .ok (.aload_n 0, 1) := by decide +kernel
theorem dM_foretold_238 : decode bM_foretold 238 = .ok (.getfield 42, 3) := by decide +kernel
theorem dM_foretold_241 : decode bM_foretold 241 = .ok (.iload_n 2, 1) := by decide +kernel
theorem dM_foretold_242 : decode bM_foretold 242 = .ok (.iconst 1, 1) := by decide +kernel
theorem dM_foretold_243 : decode bM_foretold 243 = .ok (.isub, 1) := by decide +kernel
theorem dM_foretold_244 : decode bM_foretold 244 = .ok (.iaload, 1) := by decide +kernel
theorem dM_foretold_245 : decode bM_foretold 245 = .ok (.aload_n 0, 1) := by decide +kernel
theorem dM_foretold_246 : decode bM_foretold 246 = .ok (.getfield 42, 3) := by decide +kernel
theorem dM_foretold_249 : decode bM_foretold 249 = .ok (.iconst 0, 1) := by decide +kernel
theorem dM_foretold_250 : decode bM_foretold 250 = .ok (.iaload, 1) := by decide +kernel
theorem dM_foretold_251 : decode bM_foretold 251 = .ok (.isub, 1) := by decide +kernel
theorem dM_foretold_252 : decode bM_foretold 252 = .ok (.i2l, 1) := by decide +kernel
theorem dM_foretold_253 : decode bM_foretold 253 = .ok (.ldiv, 1) := by decide +kernel
theorem dM_foretold_254 : decode bM_foretold 254 = .ok (.ladd, 1) := by decide +kernel
theorem dM_foretold_255 : decode bM_foretold 255 = .ok (.lreturn, 1) := by decide +kernel
theorem dM_off_0 : decode bM_off 0 = .ok (.lload_n 1, 1) := by decide +kernel
theorem dM_off_1 : decode bM_off 1 = .ok (.lconst 0, 1) := by decide +kernel
theorem dM_off_2 : decode bM_off 2 = .ok (.lcmp, 1) := by decide +kernel
theorem dM_off_3 : decode bM_off 3 = .ok (.ifCond .ge 5, 3) := by decide +kernel
theorem dM_off_6 : decode bM_off 6 = .ok (.iconst (-1), 1) := by decide +kernel
theorem dM_off_7 : decode bM_off 7 = .ok (.ireturn, 1) := by decide +kernel
theorem dM_off_8 : decode bM_off 8 = .ok (.iconst 0, 1) := by decide +kernel
theorem dM_off_9 : decode bM_off 9 = .ok (.istore_n 3, 1) := by decide +kernel
theorem dM_off_10 : decode bM_off 10 = .ok (.iconst 0, 1) := by decide +kernel
theorem dM_off_11 : decode bM_off 11 = .ok (.istore 4, 2) := by decide +kernel
theorem dM_off_13 : decode bM_off 13 = .ok (.iload 4, 2) := by decide +kernel
theorem dM_off_15 : decode bM_off 15 = .ok (.aload_n 0, 1) := by decide +kernel
theorem dM_off_16 : decode bM_off 16 = .ok (.getfield 140, 3) := by decide +kernel
theorem dM_off_19 : decode bM_off 19 = .ok (.if_icmp .ge 73, 3) := by decide +kernel
theorem dM_off_22 : decode bM_off 22 = .ok (.aload_n 0, 1) := by decide +kernel
theorem dM_off_23 : decode bM_off 23 = .ok (.getfield 42, 3) := by decide +kernel
theorem dM_off_26 : decode bM_off 26 = .ok (.iload 4, 2) := by decide +kernel
theorem dM_off_28 : decode bM_off 28 = .ok (.iaload, 1) := by decide +kernel
theorem dM_off_29 : decode bM_off 29 = .ok (.aload_n 0, 1) := by decide +kernel
theorem dM_off_30 : decode bM_off 30 = .ok (.getfield 73, 3) := by decide +kernel
theorem dM_off_33 : decode bM_off 33 = .ok (.if_icmp .gt 53, 3) := by decide +kernel
theorem dM_off_36 : decode bM_off 36 = .ok (.aload_n 0, 1) := by decide +kernel
theorem dM_off_37 : decode bM_off 37 = .ok (.getfield 45, 3) := by decide +kernel
theorem dM_off_40 : decode bM_off 40 = .ok (.iload 4, 2) := by decide +kernel
theorem dM_off_42 : decode bM_off 42 = .ok (.laload, 1) := by decide +kernel
theorem dM_off_43 : decode bM_off 43 = .ok (.aload_n 0, 1) := by decide +kernel
theorem dM_off_44 : decode bM_off 44 = .ok (.getfield 48, 3) := by decide +kernel
theorem dM_off_47 : decode bM_off 47 = .ok (.aload_n 0, 1) := by decide +kernel
theorem dM_off_48 : decode bM_off 48 = .ok (.getfield 42, 3) := by decide +kernel
theorem dM_off_51 : decode bM_off 51 = .ok (.iload 4, 2) := by decide +kernel
theorem dM_off_53 : decode bM_off 53 = .ok (.iaload, 1) := by decide +kernel
theorem dM_off_54 : decode bM_off 54 = .ok (.laload, 1) := by decide +kernel
theorem dM_off_55 : decode bM_off 55 = .ok (.lsub, 1) := by decide +kernel
theorem dM_off_56 : decode bM_off 56 = .ok (.lstore 5, 2) := by decide +kernel
theorem dM_off_58 : decode bM_off 58 = .ok (.iload_n 3, 1) := by decide +kernel
theorem dM_off_59 : decode bM_off 59 = .ok (.lload 5, 2) := by decide +kernel
theorem dM_off_61 : decode bM_off 61 = .ok (.lconst 0, 1) := by decide +kernel
theorem dM_off_62 : decode bM_off 62 = .ok (.lcmp, 1) := by decide +kernel
theorem dM_off_63 : decode bM_off 63 = .ok (.ifCond .ge 9, 3) := by decide +kernel
theorem dM_off_66 : decode bM_off 66 = .ok (.lload 5, 2) := by decide +kernel
theorem dM_off_68 : decode bM_off 68 = .ok (.lneg, 1) := by decide +kernel
theorem dM_off_69 : decode bM_off 69 = .ok (.goto 5, 3) := by decide +kernel
theorem dM_off_72 : decode bM_off 72 = .ok (.lload 5, 2) := by decide +kernel
theorem dM_off_74 : decode bM_off 74 = .ok (.lload_n 1, 1) := by decide +kernel
theorem dM_off_75 : decode bM_off 75 = .ok (.lcmp, 1) := by decide +kernel
theorem dM_off_76 : decode bM_off 76 = .ok (.ifCond .le 7, 3) := by decide +kernel
theorem dM_off_79 : decode bM_off 79 = .ok (.iconst 1, 1) := by decide +kernel
theorem dM_off_80 : decode bM_off 80 = .ok (.goto 4, 3) := by decide +kernel
theorem dM_off_83 : decode bM_off 83 = .ok (.iconst 0, 1) := by decide +kernel
theorem dM_off_84 : decode bM_off 84 = .ok (.iadd, 1) := by decide +kernel
theorem dM_off_85 : decode bM_off 85 = .ok (.istore_n 3, 1) := by decide +kernel
theorem dM_off_86 : decode bM_off 86 = .ok (.iinc 4 1, 3) := by decide +kernel
theorem dM_off_89 : decode bM_off 89 = .ok (.goto (-76), 3) := by decide +kernel
theorem dM_off_92 : decode bM_off 92 = .ok (.iload_n 3, 1) := by decide +kernel
theorem dM_off_93 : decode bM_off 93 = .ok (.ireturn, 1) := by decide +kernel
theorem dM_count_0 : decode bM_count 0 = .ok (.iload_n 1, 1) := by decide +kernel
theorem dM_count_1 : decode bM_count 1 = .ok (.tableswitch 70 0 5 #[39, 44, 49, 54, 59, 64], 39) := by decide +kernel
theorem dM_count_40 : decode bM_count 40 = .ok (.aload_n 0, 1) := by decide +kernel
theorem dM_count_41 : decode bM_count 41 = .ok (.getfield 79, 3) := by decide +kernel
theorem dM_count_44 : decode bM_count 44 = .ok (.ireturn, 1) := by decide +kernel
theorem dM_count_45 : decode bM_count 45 = .ok (.aload_n 0, 1) := by decide +kernel
theorem dM_count_46 : decode bM_count 46 = .ok (.getfield 69, 3) := by decide +kernel
theorem dM_count_49 : decode bM_count 49 = .ok (.ireturn, 1) := by decide +kernel
theorem dM_count_50 : decode bM_count 50 = .ok (.aload_n 0, 1) := by decide +kernel
theorem dM_count_51 : decode bM_count 51 = .ok (.getfield 76, 3) := by decide +kernel
theorem dM_count_54 : decode bM_count 54 = .ok (.ireturn, 1) := by decide +kernel
theorem dM_count_55 : decode bM_count 55 = .ok (.aload_n 0, 1) := by decide +kernel
theorem dM_count_56 : decode bM_count 56 = .ok (.getfield 73, 3) := by decide +kernel
theorem dM_count_59 : decode bM_count 59 = .ok (.ireturn, 1) := by decide +kernel
theorem dM_count_60 : decode bM_count 60 = .ok (.aload_n 0, 1) := by decide +kernel
theorem dM_count_61 : decode bM_count 61 = .ok (.getfield 140, 3) := by decide +kernel
theorem dM_count_64 : decode bM_count 64 = .ok (.ireturn, 1) := by decide +kernel
theorem dM_count_65 : decode bM_count 65 = .ok (.aload_n 0, 1) := by decide +kernel
theorem dM_count_66 : decode bM_count 66 = .ok (.getfield 98, 3) := by decide +kernel
theorem dM_count_69 : decode bM_count 69 = .ok (.l2i, 1) := by decide +kernel
theorem dM_count_70 : decode bM_count 70 = .ok (.ireturn, 1) := by decide +kernel
theorem dM_count_71 : decode bM_count 71 = .ok (.iconst (-1), 1) := by decide +kernel
theorem dM_count_72 : decode bM_count 72 = .ok (.ireturn, 1) := by decide +kernel
