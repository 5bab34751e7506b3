theorem zd_X_init_0 : decode zc_X_init 0 = .ok (.aload_n 0, 1) := by decide +kernel
theorem zd_X_init_1 : decode zc_X_init 1 = .ok (.invokespecial 1, 3) := by decide +kernel
theorem zd_X_init_4 : decode zc_X_init 4 = .ok (.aload_n 0, 1) := by decide +kernel
theorem zd_X_init_5 : decode zc_X_init 5 = .ok (.iconst 1, 1) := by decide +kernel
theorem zd_X_init_6 : decode zc_X_init 6 = .ok (.putfield 7, 3) := by decide +kernel
theorem zd_X_init_9 : decode zc_X_init 9 = .ok (.aload_n 0, 1) := by decide +kernel
theorem zd_X_init_10 : decode zc_X_init 10 = .ok (.bipush 8, 2) := by decide +kernel
theorem zd_X_init_12 : decode zc_X_init 12 = .ok (.newarray .int, 2) := by decide +kernel
theorem zd_X_init_14 : decode zc_X_init 14 = .ok (.dup, 1) := by decide +kernel
theorem zd_X_init_15 : decode zc_X_init 15 = .ok (.iconst 0, 1) := by decide +kernel
theorem zd_X_init_16 : decode zc_X_init 16 = .ok (.iconst 1, 1) := by decide +kernel
theorem zd_X_init_17 : decode zc_X_init 17 = .ok (.iastore, 1) := by decide +kernel
theorem zd_X_init_18 : decode zc_X_init 18 = .ok (.dup, 1) := by decide +kernel
theorem zd_X_init_19 : decode zc_X_init 19 = .ok (.iconst 1, 1) := by decide +kernel
theorem zd_X_init_20 : decode zc_X_init 20 = .ok (.iconst 1, 1) := by decide +kernel
theorem zd_X_init_21 : decode zc_X_init 21 = .ok (.iastore, 1) := by decide +kernel
theorem zd_X_init_22 : decode zc_X_init 22 = .ok (.dup, 1) := by decide +kernel
theorem zd_X_init_23 : decode zc_X_init 23 = .ok (.iconst 2, 1) := by decide +kernel
theorem zd_X_init_24 : decode zc_X_init 24 = .ok (.iconst 1, 1) := by decide +kernel
theorem zd_X_init_25 : decode zc_X_init 25 = .ok (.iastore, 1) := by decide +kernel
theorem zd_X_init_26 : decode zc_X_init 26 = .ok (.dup, 1) := by decide +kernel
theorem zd_X_init_27 : decode zc_X_init 27 = .ok (.iconst 3, 1) := by decide +kernel
theorem zd_X_init_28 : decode zc_X_init 28 = .ok (.iconst 1, 1) := by decide +kernel
theorem zd_X_init_29 : decode zc_X_init 29 = .ok (.iastore, 1) := by decide +kernel
theorem zd_X_init_30 : decode zc_X_init 30 = .ok (.dup, 1) := by decide +kernel
theorem zd_X_init_31 : decode zc_X_init 31 = .ok (.iconst 4, 1) := by decide +kernel
theorem zd_X_init_32 : decode zc_X_init 32 = .ok (.iconst 1, 1) := by decide +kernel
theorem zd_X_init_33 : decode zc_X_init 33 = .ok (.iastore, 1) := by decide +kernel
theorem zd_X_init_34 : decode zc_X_init 34 = .ok (.dup, 1) := by decide +kernel
theorem zd_X_init_35 : decode zc_X_init 35 = .ok (.iconst 5, 1) := by decide +kernel
theorem zd_X_init_36 : decode zc_X_init 36 = .ok (.iconst 1, 1) := by decide +kernel
theorem zd_X_init_37 : decode zc_X_init 37 = .ok (.iastore, 1) := by decide +kernel
theorem zd_X_init_38 : decode zc_X_init 38 = .ok (.dup, 1) := by decide +kernel
theorem zd_X_init_39 : decode zc_X_init 39 = .ok (.bipush 6, 2) := by decide +kernel
theorem zd_X_init_41 : decode zc_X_init 41 = .ok (.iconst 1, 1) := by decide +kernel
theorem zd_X_init_42 : decode zc_X_init 42 = .ok (.iastore, 1) := by decide +kernel
theorem zd_X_init_43 : decode zc_X_init 43 = .ok (.dup, 1) := by decide +kernel
theorem zd_X_init_44 : decode zc_X_init 44 = .ok (.bipush 7, 2) := by decide +kernel
theorem zd_X_init_46 : decode zc_X_init 46 = .ok (.iconst 1, 1) := by decide +kernel
theorem zd_X_init_47 : decode zc_X_init 47 = .ok (.iastore, 1) := by decide +kernel
theorem zd_X_init_48 : decode zc_X_init 48 = .ok (.putfield 13, 3) := by decide +kernel
theorem zd_X_init_51 : decode zc_X_init 51 = .ok (.aload_n 0, 1) := by decide +kernel
theorem zd_X_init_52 : decode zc_X_init 52 = .ok (.bipush 14, 2) := by decide +kernel
theorem zd_X_init_54 : decode zc_X_init 54 = .ok (.newarray .int, 2) := by decide +kernel
theorem zd_X_init_56 : decode zc_X_init 56 = .ok (.putfield 17, 3) := by decide +kernel
theorem zd_X_init_59 : decode zc_X_init 59 = .ok (.aload_n 0, 1) := by decide +kernel
theorem zd_X_init_60 : decode zc_X_init 60 = .ok (.bipush 14, 2) := by decide +kernel
theorem zd_X_init_62 : decode zc_X_init 62 = .ok (.newarray .int, 2) := by decide +kernel
theorem zd_X_init_64 : decode zc_X_init 64 = .ok (.putfield 20, 3) := by decide +kernel
theorem zd_X_init_67 : decode zc_X_init 67 = .ok (.aload_n 0, 1) := by decide +kernel
theorem zd_X_init_68 : decode zc_X_init 68 = .ok (.bipush 14, 2) := by decide +kernel
theorem zd_X_init_70 : decode zc_X_init 70 = .ok (.newarray .int, 2) := by decide +kernel
theorem zd_X_init_72 : decode zc_X_init 72 = .ok (.putfield 23, 3) := by decide +kernel
theorem zd_X_init_75 : decode zc_X_init 75 = .ok (.aload_n 0, 1) := by decide +kernel
theorem zd_X_init_76 : decode zc_X_init 76 = .ok (.bipush 14, 2) := by decide +kernel
theorem zd_X_init_78 : decode zc_X_init 78 = .ok (.newarray .int, 2) := by decide +kernel
theorem zd_X_init_80 : decode zc_X_init 80 = .ok (.putfield 26, 3) := by decide +kernel
theorem zd_X_init_83 : decode zc_X_init 83 = .ok (.aload_n 0, 1) := by decide +kernel
theorem zd_X_init_84 : decode zc_X_init 84 = .ok (.bipush 14, 2) := by decide +kernel
theorem zd_X_init_86 : decode zc_X_init 86 = .ok (.newarray .int, 2) := by decide +kernel
theorem zd_X_init_88 : decode zc_X_init 88 = .ok (.putfield 29, 3) := by decide +kernel
theorem zd_X_init_91 : decode zc_X_init 91 = .ok (.aload_n 0, 1) := by decide +kernel
theorem zd_X_init_92 : decode zc_X_init 92 = .ok (.bipush 8, 2) := by decide +kernel
theorem zd_X_init_94 : decode zc_X_init 94 = .ok (.newarray .int, 2) := by decide +kernel
theorem zd_X_init_96 : decode zc_X_init 96 = .ok (.putfield 32, 3) := by decide +kernel
theorem zd_X_init_99 : decode zc_X_init 99 = .ok (.aload_n 0, 1) := by decide +kernel
theorem zd_X_init_100 : decode zc_X_init 100 = .ok (.bipush 8, 2) := by decide +kernel
theorem zd_X_init_102 : decode zc_X_init 102 = .ok (.newarray .long, 2) := by decide +kernel
theorem zd_X_init_104 : decode zc_X_init 104 = .ok (.putfield 35, 3) := by decide +kernel
theorem zd_X_init_107 : decode zc_X_init 107 = .ok (.aload_n 0, 1) := by decide +kernel
theorem zd_X_init_108 : decode zc_X_init 108 = .ok (.bipush 8, 2) := by decide +kernel
theorem zd_X_init_110 : decode zc_X_init 110 = .ok (.newarray .long, 2) := by decide +kernel
theorem zd_X_init_112 : decode zc_X_init 112 = .ok (.putfield 39, 3) := by decide +kernel
theorem zd_X_init_115 : decode zc_X_init 115 = .ok (.aload_n 0, 1) := by decide +kernel
theorem zd_X_init_116 : decode zc_X_init 116 = .ok (.bipush 8, 2) := by decide +kernel
theorem zd_X_init_118 : decode zc_X_init 118 = .ok (.newarray .int, 2) := by decide +kernel
theorem zd_X_init_120 : decode zc_X_init 120 = .ok (.putfield 42, 3) := by decide +kernel
theorem zd_X_init_123 : decode zc_X_init 123 = .ok (.aload_n 0, 1) := by decide +kernel
theorem zd_X_init_124 : decode zc_X_init 124 = .ok (.bipush 8, 2) := by decide +kernel
theorem zd_X_init_126 : decode zc_X_init 126 = .ok (.newarray .int, 2) := by decide +kernel
theorem zd_X_init_128 : decode zc_X_init 128 = .ok (.putfield 45, 3) := by decide +kernel
theorem zd_X_init_131 : decode zc_X_init 131 = .ok (.aload_n 0, 1) := by decide +kernel
theorem zd_X_init_132 : decode zc_X_init 132 = .ok (.bipush 14, 2) := by decide +kernel
theorem zd_X_init_134 : decode zc_X_init 134 = .ok (.newarray .int, 2) := by decide +kernel
theorem zd_X_init_136 : decode zc_X_init 136 = .ok (.putfield 48, 3) := by decide +kernel
theorem zd_X_init_139 : decode zc_X_init 139 = .ok (.aload_n 0, 1) := by decide +kernel
theorem zd_X_init_140 : decode zc_X_init 140 = .ok (.bipush 14, 2) := by decide +kernel
theorem zd_X_init_142 : decode zc_X_init 142 = .ok (.newarray .int, 2) := by decide +kernel
theorem zd_X_init_144 : decode zc_X_init 144 = .ok (.putfield 51, 3) := by decide +kernel
theorem zd_X_init_147 : decode zc_X_init 147 = .ok (.aload_n 0, 1) := by decide +kernel
theorem zd_X_init_148 : decode zc_X_init 148 = .ok (.sipush 400, 3) := by decide +kernel
theorem zd_X_init_151 : decode zc_X_init 151 = .ok (.newarray .int, 2) := by decide +kernel
theorem zd_X_init_153 : decode zc_X_init 153 = .ok (.putfield 54, 3) := by decide +kernel
theorem zd_X_init_156 : decode zc_X_init 156 = .ok (.aload_n 0, 1) := by decide +kernel
theorem zd_X_init_157 : decode zc_X_init 157 = .ok (.bipush 8, 2) := by decide +kernel
theorem zd_X_init_159 : decode zc_X_init 159 = .ok (.newarray .boolean, 2) := by decide +kernel
theorem zd_X_init_161 : decode zc_X_init 161 = .ok (.putfield 57, 3) := by decide +kernel
theorem zd_X_init_164 : decode zc_X_init 164 = .ok (.aload_n 0, 1) := by decide +kernel
theorem zd_X_init_165 : decode zc_X_init 165 = .ok (.bipush 8, 2) := by decide +kernel
theorem zd_X_init_167 : decode zc_X_init 167 = .ok (.newarray .int, 2) := by decide +kernel
theorem zd_X_init_169 : decode zc_X_init 169 = .ok (.putfield 61, 3) := by decide +kernel
theorem zd_X_init_172 : decode zc_X_init 172 = .ok (.aload_n 0, 1) := by decide +kernel
theorem zd_X_init_173 : decode zc_X_init 173 = .ok (.sipush 700, 3) := by decide +kernel
theorem zd_X_init_176 : decode zc_X_init 176 = .ok (.newarray .int, 2) := by decide +kernel
theorem zd_X_init_178 : decode zc_X_init 178 = .ok (.putfield 64, 3) := by decide +kernel
theorem zd_X_init_181 : decode zc_X_init 181 = .ok (.aload_n 0, 1) := by decide +kernel
theorem zd_X_init_182 : decode zc_X_init 182 = .ok (.sipush 700, 3) := by decide +kernel
theorem zd_X_init_185 : decode zc_X_init 185 = .ok (.newarray .int, 2) := by decide +kernel
theorem zd_X_init_187 : decode zc_X_init 187 = .ok (.putfield 67, 3) := by decide +kernel
theorem zd_X_init_190 : decode zc_X_init 190 = .ok (.aload_n 0, 1) := by decide +kernel
theorem zd_X_init_191 : decode zc_X_init 191 = .ok (.sipush 700, 3) := by decide +kernel
theorem zd_X_init_194 : decode zc_X_init 194 = .ok (.newarray .int, 2) := by decide +kernel
theorem zd_X_init_196 : decode zc_X_init 196 = .ok (.putfield 70, 3) := by decide +kernel
theorem zd_X_init_199 : decode zc_X_init 199 = .ok (.aload_n 0, 1) := by decide +kernel
theorem zd_X_init_200 : decode zc_X_init 200 = .ok (.sipush 700, 3) := by decide +kernel
theorem zd_X_init_203 : decode zc_X_init 203 = .ok (.newarray .int, 2) := by decide +kernel
theorem zd_X_init_205 : decode zc_X_init 205 = .ok (.putfield 73, 3) := by decide +kernel
theorem zd_X_init_208 : decode zc_X_init 208 = .ok (.aload_n 0, 1) := by decide +kernel
theorem zd_X_init_209 : decode zc_X_init 209 = .ok (.bipush 40, 2) := by decide +kernel
theorem zd_X_init_211 : decode zc_X_init 211 = .ok (.newarray .long, 2) := by decide +kernel
theorem zd_X_init_213 : decode zc_X_init 213 = .ok (.putfield 76, 3) := by decide +kernel
theorem zd_X_init_216 : decode zc_X_init 216 = .ok (.aload_n 0, 1) := by decide +kernel
theorem zd_X_init_217 : decode zc_X_init 217 = .ok (.bipush 64, 2) := by decide +kernel
theorem zd_X_init_219 : decode zc_X_init 219 = .ok (.newarray .int, 2) := by decide +kernel
theorem zd_X_init_221 : decode zc_X_init 221 = .ok (.putfield 79, 3) := by decide +kernel
theorem zd_X_init_224 : decode zc_X_init 224 = .ok (.return_, 1) := by decide +kernel
theorem zd_X_thrown_0 : decode zc_X_thrown 0 = .ok (.aload_n 0, 1) := by decide +kernel
theorem zd_X_thrown_1 : decode zc_X_thrown 1 = .ok (.getfield 82, 3) := by decide +kernel
theorem zd_X_thrown_4 : decode zc_X_thrown 4 = .ok (.ireturn, 1) := by decide +kernel
theorem zd_X_in_0 : decode zc_X_in 0 = .ok (.iload_n 0, 1) := by decide +kernel
theorem zd_X_in_1 : decode zc_X_in 1 = .ok (.iload_n 1, 1) := by decide +kernel
theorem zd_X_in_2 : decode zc_X_in 2 = .ok (.if_icmp .lt 12, 3) := by decide +kernel
theorem zd_X_in_5 : decode zc_X_in 5 = .ok (.iload_n 0, 1) := by decide +kernel
theorem zd_X_in_6 : decode zc_X_in 6 = .ok (.iload_n 2, 1) := by decide +kernel
theorem zd_X_in_7 : decode zc_X_in 7 = .ok (.if_icmp .gt 7, 3) := by decide +kernel
theorem zd_X_in_10 : decode zc_X_in 10 = .ok (.iconst 1, 1) := by decide +kernel
theorem zd_X_in_11 : decode zc_X_in 11 = .ok (.goto 4, 3) := by decide +kernel
theorem zd_X_in_14 : decode zc_X_in 14 = .ok (.iconst 0, 1) := by decide +kernel
theorem zd_X_in_15 : decode zc_X_in 15 = .ok (.ireturn, 1) := by decide +kernel
theorem zd_X_raise_0 : decode zc_X_raise 0 = .ok (.aload_n 0, 1) := by decide +kernel
theorem zd_X_raise_1 : decode zc_X_raise 1 = .ok (.iload_n 1, 1) := by decide +kernel
theorem zd_X_raise_2 : decode zc_X_raise 2 = .ok (.putfield 82, 3) := by decide +kernel
theorem zd_X_raise_5 : decode zc_X_raise 5 = .ok (.iconst 0, 1) := by decide +kernel
theorem zd_X_raise_6 : decode zc_X_raise 6 = .ok (.ireturn, 1) := by decide +kernel
theorem zd_X_graph_0 : decode zc_X_graph 0 = .ok (.aload_n 0, 1) := by decide +kernel
theorem zd_X_graph_1 : decode zc_X_graph 1 = .ok (.iconst 0, 1) := by decide +kernel
theorem zd_X_graph_2 : decode zc_X_graph 2 = .ok (.putfield 82, 3) := by decide +kernel
theorem zd_X_graph_5 : decode zc_X_graph 5 = .ok (.iload_n 1, 1) := by decide +kernel
theorem zd_X_graph_6 : decode zc_X_graph 6 = .ok (.iconst 1, 1) := by decide +kernel
theorem zd_X_graph_7 : decode zc_X_graph 7 = .ok (.bipush 8, 2) := by decide +kernel
theorem zd_X_graph_9 : decode zc_X_graph 9 = .ok (.invokestatic 85, 3) := by decide +kernel
theorem zd_X_graph_12 : decode zc_X_graph 12 = .ok (.ifCond .ne 5, 3) := by decide +kernel
theorem zd_X_graph_15 : decode zc_X_graph 15 = .ok (.iconst 0, 1) := by decide +kernel
theorem zd_X_graph_16 : decode zc_X_graph 16 = .ok (.ireturn, 1) := by decide +kernel
theorem zd_X_graph_17 : decode zc_X_graph 17 = .ok (.aload_n 0, 1) := by decide +kernel
theorem zd_X_graph_18 : decode zc_X_graph 18 = .ok (.iload_n 1, 1) := by decide +kernel
theorem zd_X_graph_19 : decode zc_X_graph 19 = .ok (.putfield 7, 3) := by decide +kernel
theorem zd_X_graph_22 : decode zc_X_graph 22 = .ok (.aload_n 0, 1) := by decide +kernel
theorem zd_X_graph_23 : decode zc_X_graph 23 = .ok (.iconst 0, 1) := by decide +kernel
theorem zd_X_graph_24 : decode zc_X_graph 24 = .ok (.putfield 89, 3) := by decide +kernel
theorem zd_X_graph_27 : decode zc_X_graph 27 = .ok (.iconst 0, 1) := by decide +kernel
theorem zd_X_graph_28 : decode zc_X_graph 28 = .ok (.istore_n 2, 1) := by decide +kernel
theorem zd_X_graph_29 : decode zc_X_graph 29 = .ok (.iload_n 2, 1) := by decide +kernel
theorem zd_X_graph_30 : decode zc_X_graph 30 = .ok (.bipush 8, 2) := by decide +kernel
theorem zd_X_graph_32 : decode zc_X_graph 32 = .ok (.if_icmp .ge 16, 3) := by decide +kernel
theorem zd_X_graph_35 : decode zc_X_graph 35 = .ok (.aload_n 0, 1) := by decide +kernel
theorem zd_X_graph_36 : decode zc_X_graph 36 = .ok (.getfield 13, 3) := by decide +kernel
theorem zd_X_graph_39 : decode zc_X_graph 39 = .ok (.iload_n 2, 1) := by decide +kernel
theorem zd_X_graph_40 : decode zc_X_graph 40 = .ok (.iconst 1, 1) := by decide +kernel
theorem zd_X_graph_41 : decode zc_X_graph 41 = .ok (.iastore, 1) := by decide +kernel
theorem zd_X_graph_42 : decode zc_X_graph 42 = .ok (.iinc 2 1, 3) := by decide +kernel
theorem zd_X_graph_45 : decode zc_X_graph 45 = .ok (.goto (-16), 3) := by decide +kernel
theorem zd_X_graph_48 : decode zc_X_graph 48 = .ok (.aload_n 0, 1) := by decide +kernel
theorem zd_X_graph_49 : decode zc_X_graph 49 = .ok (.iconst 0, 1) := by decide +kernel
theorem zd_X_graph_50 : decode zc_X_graph 50 = .ok (.putfield 92, 3) := by decide +kernel
theorem zd_X_graph_53 : decode zc_X_graph 53 = .ok (.iconst 1, 1) := by decide +kernel
theorem zd_X_graph_54 : decode zc_X_graph 54 = .ok (.ireturn, 1) := by decide +kernel
theorem zd_X_time_0 : decode zc_X_time 0 = .ok (.aload_n 0, 1) := by decide +kernel
theorem zd_X_time_1 : decode zc_X_time 1 = .ok (.iconst 0, 1) := by decide +kernel
theorem zd_X_time_2 : decode zc_X_time 2 = .ok (.putfield 82, 3) := by decide +kernel
theorem zd_X_time_5 : decode zc_X_time 5 = .ok (.iload_n 1, 1) := by decide +kernel
theorem zd_X_time_6 : decode zc_X_time 6 = .ok (.iconst 0, 1) := by decide +kernel
theorem zd_X_time_7 : decode zc_X_time 7 = .ok (.aload_n 0, 1) := by decide +kernel
theorem zd_X_time_8 : decode zc_X_time 8 = .ok (.getfield 7, 3) := by decide +kernel
theorem zd_X_time_11 : decode zc_X_time 11 = .ok (.iconst 1, 1) := by decide +kernel
theorem zd_X_time_12 : decode zc_X_time 12 = .ok (.isub, 1) := by decide +kernel
theorem zd_X_time_13 : decode zc_X_time 13 = .ok (.invokestatic 85, 3) := by decide +kernel
theorem zd_X_time_16 : decode zc_X_time 16 = .ok (.ifCond .eq 13, 3) := by decide +kernel
theorem zd_X_time_19 : decode zc_X_time 19 = .ok (.iload_n 2, 1) := by decide +kernel
theorem zd_X_time_20 : decode zc_X_time 20 = .ok (.iconst 1, 1) := by decide +kernel
theorem zd_X_time_21 : decode zc_X_time 21 = .ok (.bipush 9, 2) := by decide +kernel
theorem zd_X_time_23 : decode zc_X_time 23 = .ok (.invokestatic 85, 3) := by decide +kernel
theorem zd_X_time_26 : decode zc_X_time 26 = .ok (.ifCond .ne 5, 3) := by decide +kernel
theorem zd_X_time_29 : decode zc_X_time 29 = .ok (.iconst 0, 1) := by decide +kernel
theorem zd_X_time_30 : decode zc_X_time 30 = .ok (.ireturn, 1) := by decide +kernel
theorem zd_X_time_31 : decode zc_X_time 31 = .ok (.aload_n 0, 1) := by decide +kernel
theorem zd_X_time_32 : decode zc_X_time 32 = .ok (.getfield 13, 3) := by decide +kernel
theorem zd_X_time_35 : decode zc_X_time 35 = .ok (.iload_n 1, 1) := by decide +kernel
theorem zd_X_time_36 : decode zc_X_time 36 = .ok (.iload_n 2, 1) := by decide +kernel
theorem zd_X_time_37 : decode zc_X_time 37 = .ok (.iastore, 1) := by decide +kernel
theorem zd_X_time_38 : decode zc_X_time 38 = .ok (.iconst 1, 1) := by decide +kernel
theorem zd_X_time_39 : decode zc_X_time 39 = .ok (.ireturn, 1) := by decide +kernel
theorem zd_X_channel_0 : decode zc_X_channel 0 = .ok (.aload_n 0, 1) := by decide +kernel
theorem zd_X_channel_1 : decode zc_X_channel 1 = .ok (.iconst 0, 1) := by decide +kernel
theorem zd_X_channel_2 : decode zc_X_channel 2 = .ok (.putfield 82, 3) := by decide +kernel
theorem zd_X_channel_5 : decode zc_X_channel 5 = .ok (.iload_n 1, 1) := by decide +kernel
theorem zd_X_channel_6 : decode zc_X_channel 6 = .ok (.iconst 0, 1) := by decide +kernel
theorem zd_X_channel_7 : decode zc_X_channel 7 = .ok (.aload_n 0, 1) := by decide +kernel
theorem zd_X_channel_8 : decode zc_X_channel 8 = .ok (.getfield 7, 3) := by decide +kernel
theorem zd_X_channel_11 : decode zc_X_channel 11 = .ok (.iconst 1, 1) := by decide +kernel
theorem zd_X_channel_12 : decode zc_X_channel 12 = .ok (.isub, 1) := by decide +kernel
theorem zd_X_channel_13 : decode zc_X_channel 13 = .ok (.invokestatic 85, 3) := by decide +kernel
theorem zd_X_channel_16 : decode zc_X_channel 16 = .ok (.ifCond .eq 58, 3) := by decide +kernel
theorem zd_X_channel_19 : decode zc_X_channel 19 = .ok (.iload_n 2, 1) := by decide +kernel
theorem zd_X_channel_20 : decode zc_X_channel 20 = .ok (.iconst 0, 1) := by decide +kernel
theorem zd_X_channel_21 : decode zc_X_channel 21 = .ok (.aload_n 0, 1) := by decide +kernel
theorem zd_X_channel_22 : decode zc_X_channel 22 = .ok (.getfield 7, 3) := by decide +kernel
theorem zd_X_channel_25 : decode zc_X_channel 25 = .ok (.iconst 1, 1) := by decide +kernel
theorem zd_X_channel_26 : decode zc_X_channel 26 = .ok (.isub, 1) := by decide +kernel
theorem zd_X_channel_27 : decode zc_X_channel 27 = .ok (.invokestatic 85, 3) := by decide +kernel
theorem zd_X_channel_30 : decode zc_X_channel 30 = .ok (.ifCond .eq 44, 3) := by decide +kernel
theorem zd_X_channel_33 : decode zc_X_channel 33 = .ok (.iload_n 3, 1) := by decide +kernel
theorem zd_X_channel_34 : decode zc_X_channel 34 = .ok (.iconst 1, 1) := by decide +kernel
theorem zd_X_channel_35 : decode zc_X_channel 35 = .ok (.bipush 9, 2) := by decide +kernel
theorem zd_X_channel_37 : decode zc_X_channel 37 = .ok (.invokestatic 85, 3) := by decide +kernel
theorem zd_X_channel_40 : decode zc_X_channel 40 = .ok (.ifCond .eq 34, 3) := by decide +kernel
theorem zd_X_channel_43 : decode zc_X_channel 43 = .ok (.iload 4, 2) := by decide +kernel
theorem zd_X_channel_45 : decode zc_X_channel 45 = .ok (.iconst 1, 1) := by decide +kernel
theorem zd_X_channel_46 : decode zc_X_channel 46 = .ok (.bipush 9, 2) := by decide +kernel
theorem zd_X_channel_48 : decode zc_X_channel 48 = .ok (.invokestatic 85, 3) := by decide +kernel
theorem zd_X_channel_51 : decode zc_X_channel 51 = .ok (.ifCond .eq 23, 3) := by decide +kernel
theorem zd_X_channel_54 : decode zc_X_channel 54 = .ok (.iload 5, 2) := by decide +kernel
theorem zd_X_channel_56 : decode zc_X_channel 56 = .ok (.iconst 0, 1) := by decide +kernel
theorem zd_X_channel_57 : decode zc_X_channel 57 = .ok (.bipush 99, 2) := by decide +kernel
theorem zd_X_channel_59 : decode zc_X_channel 59 = .ok (.invokestatic 85, 3) := by decide +kernel
theorem zd_X_channel_62 : decode zc_X_channel 62 = .ok (.ifCond .eq 12, 3) := by decide +kernel
theorem zd_X_channel_65 : decode zc_X_channel 65 = .ok (.aload_n 0, 1) := by decide +kernel
theorem zd_X_channel_66 : decode zc_X_channel 66 = .ok (.getfield 89, 3) := by decide +kernel
theorem zd_X_channel_69 : decode zc_X_channel 69 = .ok (.bipush 14, 2) := by decide +kernel
theorem zd_X_channel_71 : decode zc_X_channel 71 = .ok (.if_icmp .ne 5, 3) := by decide +kernel
theorem zd_X_channel_74 : decode zc_X_channel 74 = .ok (.iconst (-1), 1) := by decide +kernel
theorem zd_X_channel_75 : decode zc_X_channel 75 = .ok (.ireturn, 1) := by decide +kernel
theorem zd_X_channel_76 : decode zc_X_channel 76 = .ok (.aload_n 0, 1) := by decide +kernel
theorem zd_X_channel_77 : decode zc_X_channel 77 = .ok (.getfield 17, 3) := by decide +kernel
theorem zd_X_channel_80 : decode zc_X_channel 80 = .ok (.aload_n 0, 1) := by decide +kernel
theorem zd_X_channel_81 : decode zc_X_channel 81 = .ok (.getfield 89, 3) := by decide +kernel
theorem zd_X_channel_84 : decode zc_X_channel 84 = .ok (.iload_n 1, 1) := by decide +kernel
theorem zd_X_channel_85 : decode zc_X_channel 85 = .ok (.iastore, 1) := by decide +kernel
theorem zd_X_channel_86 : decode zc_X_channel 86 = .ok (.aload_n 0, 1) := by decide +kernel
theorem zd_X_channel_87 : decode zc_X_channel 87 = .ok (.getfield 20, 3) := by decide +kernel
theorem zd_X_channel_90 : decode zc_X_channel 90 = .ok (.aload_n 0, 1) := by decide +kernel
theorem zd_X_channel_91 : decode zc_X_channel 91 = .ok (.getfield 89, 3) := by decide +kernel
theorem zd_X_channel_94 : decode zc_X_channel 94 = .ok (.iload_n 2, 1) := by decide +kernel
theorem zd_X_channel_95 : decode zc_X_channel 95 = .ok (.iastore, 1) := by decide +kernel
theorem zd_X_channel_96 : decode zc_X_channel 96 = .ok (.aload_n 0, 1) := by decide +kernel
theorem zd_X_channel_97 : decode zc_X_channel 97 = .ok (.getfield 23, 3) := by decide +kernel
theorem zd_X_channel_100 : decode zc_X_channel 100 = .ok (.aload_n 0, 1) := by decide +kernel
theorem zd_X_channel_101 : decode zc_X_channel 101 = .ok (.getfield 89, 3) := by decide +kernel
theorem zd_X_channel_104 : decode zc_X_channel 104 = .ok (.iload_n 3, 1) := by decide +kernel
theorem zd_X_channel_105 : decode zc_X_channel 105 = .ok (.iastore, 1) := by decide +kernel
theorem zd_X_channel_106 : decode zc_X_channel 106 = .ok (.aload_n 0, 1) := by decide +kernel
theorem zd_X_channel_107 : decode zc_X_channel 107 = .ok (.getfield 26, 3) := by decide +kernel
theorem zd_X_channel_110 : decode zc_X_channel 110 = .ok (.aload_n 0, 1) := by decide +kernel
theorem zd_X_channel_111 : decode zc_X_channel 111 = .ok (.getfield 89, 3) := by decide +kernel
theorem zd_X_channel_114 : decode zc_X_channel 114 = .ok (.iload 4, 2) := by decide +kernel
theorem zd_X_channel_116 : decode zc_X_channel 116 = .ok (.iastore, 1) := by decide +kernel
theorem zd_X_channel_117 : decode zc_X_channel 117 = .ok (.aload_n 0, 1) := by decide +kernel
theorem zd_X_channel_118 : decode zc_X_channel 118 = .ok (.getfield 29, 3) := by decide +kernel
theorem zd_X_channel_121 : decode zc_X_channel 121 = .ok (.aload_n 0, 1) := by decide +kernel
theorem zd_X_channel_122 : decode zc_X_channel 122 = .ok (.getfield 89, 3) := by decide +kernel
theorem zd_X_channel_125 : decode zc_X_channel 125 = .ok (.iload 5, 2) := by decide +kernel
theorem zd_X_channel_127 : decode zc_X_channel 127 = .ok (.iastore, 1) := by decide +kernel
theorem zd_X_channel_128 : decode zc_X_channel 128 = .ok (.aload_n 0, 1) := by decide +kernel
theorem zd_X_channel_129 : decode zc_X_channel 129 = .ok (.dup, 1) := by decide +kernel
theorem zd_X_channel_130 : decode zc_X_channel 130 = .ok (.getfield 89, 3) := by decide +kernel
theorem zd_X_channel_133 : decode zc_X_channel 133 = .ok (.iconst 1, 1) := by decide +kernel
theorem zd_X_channel_134 : decode zc_X_channel 134 = .ok (.iadd, 1) := by decide +kernel
theorem zd_X_channel_135 : decode zc_X_channel 135 = .ok (.putfield 89, 3) := by decide +kernel
theorem zd_X_channel_138 : decode zc_X_channel 138 = .ok (.aload_n 0, 1) := by decide +kernel
theorem zd_X_channel_139 : decode zc_X_channel 139 = .ok (.iconst 0, 1) := by decide +kernel
theorem zd_X_channel_140 : decode zc_X_channel 140 = .ok (.putfield 92, 3) := by decide +kernel
theorem zd_X_channel_143 : decode zc_X_channel 143 = .ok (.aload_n 0, 1) := by decide +kernel
theorem zd_X_channel_144 : decode zc_X_channel 144 = .ok (.getfield 89, 3) := by decide +kernel
theorem zd_X_channel_147 : decode zc_X_channel 147 = .ok (.iconst 1, 1) := by decide +kernel
theorem zd_X_channel_148 : decode zc_X_channel 148 = .ok (.isub, 1) := by decide +kernel
theorem zd_X_channel_149 : decode zc_X_channel 149 = .ok (.ireturn, 1) := by decide +kernel
theorem zd_X_divisor_0 : decode zc_X_divisor 0 = .ok (.lload_n 0, 1) := by decide +kernel
theorem zd_X_divisor_1 : decode zc_X_divisor 1 = .ok (.lstore 4, 2) := by decide +kernel
theorem zd_X_divisor_3 : decode zc_X_divisor 3 = .ok (.lload_n 2, 1) := by decide +kernel
theorem zd_X_divisor_4 : decode zc_X_divisor 4 = .ok (.lstore 6, 2) := by decide +kernel
theorem zd_X_divisor_6 : decode zc_X_divisor 6 = .ok (.lload 6, 2) := by decide +kernel
theorem zd_X_divisor_8 : decode zc_X_divisor 8 = .ok (.lconst 0, 1) := by decide +kernel
theorem zd_X_divisor_9 : decode zc_X_divisor 9 = .ok (.lcmp, 1) := by decide +kernel
theorem zd_X_divisor_10 : decode zc_X_divisor 10 = .ok (.ifCond .eq 21, 3) := by decide +kernel
theorem zd_X_divisor_13 : decode zc_X_divisor 13 = .ok (.lload 4, 2) := by decide +kernel
theorem zd_X_divisor_15 : decode zc_X_divisor 15 = .ok (.lload 6, 2) := by decide +kernel
theorem zd_X_divisor_17 : decode zc_X_divisor 17 = .ok (.lrem, 1) := by decide +kernel
theorem zd_X_divisor_18 : decode zc_X_divisor 18 = .ok (.lstore 8, 2) := by decide +kernel
theorem zd_X_divisor_20 : decode zc_X_divisor 20 = .ok (.lload 6, 2) := by decide +kernel
theorem zd_X_divisor_22 : decode zc_X_divisor 22 = .ok (.lstore 4, 2) := by decide +kernel
theorem zd_X_divisor_24 : decode zc_X_divisor 24 = .ok (.lload 8, 2) := by decide +kernel
theorem zd_X_divisor_26 : decode zc_X_divisor 26 = .ok (.lstore 6, 2) := by decide +kernel
theorem zd_X_divisor_28 : decode zc_X_divisor 28 = .ok (.goto (-22), 3) := by decide +kernel
theorem zd_X_divisor_31 : decode zc_X_divisor 31 = .ok (.lload 4, 2) := by decide +kernel
theorem zd_X_divisor_33 : decode zc_X_divisor 33 = .ok (.lreturn, 1) := by decide +kernel
theorem zd_X_set_0 : decode zc_X_set 0 = .ok (.lload_n 2, 1) := by decide +kernel
theorem zd_X_set_1 : decode zc_X_set 1 = .ok (.lload 4, 2) := by decide +kernel
theorem zd_X_set_3 : decode zc_X_set 3 = .ok (.invokestatic 96, 3) := by decide +kernel
theorem zd_X_set_6 : decode zc_X_set 6 = .ok (.lstore 6, 2) := by decide +kernel
theorem zd_X_set_8 : decode zc_X_set 8 = .ok (.aload_n 0, 1) := by decide +kernel
theorem zd_X_set_9 : decode zc_X_set 9 = .ok (.getfield 35, 3) := by decide +kernel
theorem zd_X_set_12 : decode zc_X_set 12 = .ok (.iload_n 1, 1) := by decide +kernel
theorem zd_X_set_13 : decode zc_X_set 13 = .ok (.lload_n 2, 1) := by decide +kernel
theorem zd_X_set_14 : decode zc_X_set 14 = .ok (.lload 6, 2) := by decide +kernel
theorem zd_X_set_16 : decode zc_X_set 16 = .ok (.ldiv, 1) := by decide +kernel
theorem zd_X_set_17 : decode zc_X_set 17 = .ok (.lastore, 1) := by decide +kernel
theorem zd_X_set_18 : decode zc_X_set 18 = .ok (.aload_n 0, 1) := by decide +kernel
theorem zd_X_set_19 : decode zc_X_set 19 = .ok (.getfield 39, 3) := by decide +kernel
theorem zd_X_set_22 : decode zc_X_set 22 = .ok (.iload_n 1, 1) := by decide +kernel
theorem zd_X_set_23 : decode zc_X_set 23 = .ok (.lload 4, 2) := by decide +kernel
theorem zd_X_set_25 : decode zc_X_set 25 = .ok (.lload 6, 2) := by decide +kernel
theorem zd_X_set_27 : decode zc_X_set 27 = .ok (.ldiv, 1) := by decide +kernel
theorem zd_X_set_28 : decode zc_X_set 28 = .ok (.lastore, 1) := by decide +kernel
theorem zd_X_set_29 : decode zc_X_set 29 = .ok (.return_, 1) := by decide +kernel
theorem zd_X_fits_0 : decode zc_X_fits 0 = .ok (.iconst 0, 1) := by decide +kernel
theorem zd_X_fits_1 : decode zc_X_fits 1 = .ok (.istore_n 2, 1) := by decide +kernel
theorem zd_X_fits_2 : decode zc_X_fits 2 = .ok (.iload_n 2, 1) := by decide +kernel
theorem zd_X_fits_3 : decode zc_X_fits 3 = .ok (.aload_n 0, 1) := by decide +kernel
theorem zd_X_fits_4 : decode zc_X_fits 4 = .ok (.getfield 7, 3) := by decide +kernel
theorem zd_X_fits_7 : decode zc_X_fits 7 = .ok (.if_icmp .ge 16, 3) := by decide +kernel
theorem zd_X_fits_10 : decode zc_X_fits 10 = .ok (.aload_n 0, 1) := by decide +kernel
theorem zd_X_fits_11 : decode zc_X_fits 11 = .ok (.getfield 32, 3) := by decide +kernel
theorem zd_X_fits_14 : decode zc_X_fits 14 = .ok (.iload_n 2, 1) := by decide +kernel
theorem zd_X_fits_15 : decode zc_X_fits 15 = .ok (.iconst (-1), 1) := by decide +kernel
theorem zd_X_fits_16 : decode zc_X_fits 16 = .ok (.iastore, 1) := by decide +kernel
theorem zd_X_fits_17 : decode zc_X_fits 17 = .ok (.iinc 2 1, 3) := by decide +kernel
theorem zd_X_fits_20 : decode zc_X_fits 20 = .ok (.goto (-18), 3) := by decide +kernel
theorem zd_X_fits_23 : decode zc_X_fits 23 = .ok (.iconst 0, 1) := by decide +kernel
theorem zd_X_fits_24 : decode zc_X_fits 24 = .ok (.istore_n 2, 1) := by decide +kernel
theorem zd_X_fits_25 : decode zc_X_fits 25 = .ok (.iload_n 2, 1) := by decide +kernel
theorem zd_X_fits_26 : decode zc_X_fits 26 = .ok (.aload_n 0, 1) := by decide +kernel
theorem zd_X_fits_27 : decode zc_X_fits 27 = .ok (.getfield 7, 3) := by decide +kernel
theorem zd_X_fits_30 : decode zc_X_fits 30 = .ok (.if_icmp .ge 81, 3) := by decide +kernel
theorem zd_X_fits_33 : decode zc_X_fits 33 = .ok (.aload_n 0, 1) := by decide +kernel
theorem zd_X_fits_34 : decode zc_X_fits 34 = .ok (.getfield 32, 3) := by decide +kernel
theorem zd_X_fits_37 : decode zc_X_fits 37 = .ok (.iload_n 2, 1) := by decide +kernel
theorem zd_X_fits_38 : decode zc_X_fits 38 = .ok (.iaload, 1) := by decide +kernel
theorem zd_X_fits_39 : decode zc_X_fits 39 = .ok (.iconst (-1), 1) := by decide +kernel
theorem zd_X_fits_40 : decode zc_X_fits 40 = .ok (.if_icmp .eq 6, 3) := by decide +kernel
theorem zd_X_fits_43 : decode zc_X_fits 43 = .ok (.goto 62, 3) := by decide +kernel
theorem zd_X_fits_46 : decode zc_X_fits 46 = .ok (.aload_n 0, 1) := by decide +kernel
theorem zd_X_fits_47 : decode zc_X_fits 47 = .ok (.getfield 32, 3) := by decide +kernel
theorem zd_X_fits_50 : decode zc_X_fits 50 = .ok (.iload_n 2, 1) := by decide +kernel
theorem zd_X_fits_51 : decode zc_X_fits 51 = .ok (.iload_n 2, 1) := by decide +kernel
theorem zd_X_fits_52 : decode zc_X_fits 52 = .ok (.iastore, 1) := by decide +kernel
theorem zd_X_fits_53 : decode zc_X_fits 53 = .ok (.aload_n 0, 1) := by decide +kernel
theorem zd_X_fits_54 : decode zc_X_fits 54 = .ok (.iload_n 2, 1) := by decide +kernel
theorem zd_X_fits_55 : decode zc_X_fits 55 = .ok (.lconst 1, 1) := by decide +kernel
theorem zd_X_fits_56 : decode zc_X_fits 56 = .ok (.lconst 1, 1) := by decide +kernel
theorem zd_X_fits_57 : decode zc_X_fits 57 = .ok (.invokevirtual 100, 3) := by decide +kernel
theorem zd_X_fits_60 : decode zc_X_fits 60 = .ok (.iconst 1, 1) := by decide +kernel
theorem zd_X_fits_61 : decode zc_X_fits 61 = .ok (.istore_n 3, 1) := by decide +kernel
theorem zd_X_fits_62 : decode zc_X_fits 62 = .ok (.iload_n 3, 1) := by decide +kernel
theorem zd_X_fits_63 : decode zc_X_fits 63 = .ok (.ifCond .eq 42, 3) := by decide +kernel
theorem zd_X_fits_66 : decode zc_X_fits 66 = .ok (.iconst 0, 1) := by decide +kernel
theorem zd_X_fits_67 : decode zc_X_fits 67 = .ok (.istore_n 3, 1) := by decide +kernel
theorem zd_X_fits_68 : decode zc_X_fits 68 = .ok (.iconst 0, 1) := by decide +kernel
theorem zd_X_fits_69 : decode zc_X_fits 69 = .ok (.istore 4, 2) := by decide +kernel
theorem zd_X_fits_71 : decode zc_X_fits 71 = .ok (.iload 4, 2) := by decide +kernel
theorem zd_X_fits_73 : decode zc_X_fits 73 = .ok (.iload_n 1, 1) := by decide +kernel
theorem zd_X_fits_74 : decode zc_X_fits 74 = .ok (.if_icmp .ge 28, 3) := by decide +kernel
theorem zd_X_fits_77 : decode zc_X_fits 77 = .ok (.aload_n 0, 1) := by decide +kernel
theorem zd_X_fits_78 : decode zc_X_fits 78 = .ok (.iload 4, 2) := by decide +kernel
theorem zd_X_fits_80 : decode zc_X_fits 80 = .ok (.invokevirtual 104, 3) := by decide +kernel
theorem zd_X_fits_83 : decode zc_X_fits 83 = .ok (.ifCond .ne 7, 3) := by decide +kernel
theorem zd_X_fits_86 : decode zc_X_fits 86 = .ok (.iload_n 3, 1) := by decide +kernel
theorem zd_X_fits_87 : decode zc_X_fits 87 = .ok (.ifCond .eq 7, 3) := by decide +kernel
theorem zd_X_fits_90 : decode zc_X_fits 90 = .ok (.iconst 1, 1) := by decide +kernel
theorem zd_X_fits_91 : decode zc_X_fits 91 = .ok (.goto 4, 3) := by decide +kernel
theorem zd_X_fits_94 : decode zc_X_fits 94 = .ok (.iconst 0, 1) := by decide +kernel
theorem zd_X_fits_95 : decode zc_X_fits 95 = .ok (.istore_n 3, 1) := by decide +kernel
theorem zd_X_fits_96 : decode zc_X_fits 96 = .ok (.iinc 4 1, 3) := by decide +kernel
theorem zd_X_fits_99 : decode zc_X_fits 99 = .ok (.goto (-28), 3) := by decide +kernel
theorem zd_X_fits_102 : decode zc_X_fits 102 = .ok (.goto (-40), 3) := by decide +kernel
theorem zd_X_fits_105 : decode zc_X_fits 105 = .ok (.iinc 2 1, 3) := by decide +kernel
theorem zd_X_fits_108 : decode zc_X_fits 108 = .ok (.goto (-83), 3) := by decide +kernel
theorem zd_X_fits_111 : decode zc_X_fits 111 = .ok (.iconst 0, 1) := by decide +kernel
theorem zd_X_fits_112 : decode zc_X_fits 112 = .ok (.istore_n 2, 1) := by decide +kernel
theorem zd_X_fits_113 : decode zc_X_fits 113 = .ok (.iload_n 2, 1) := by decide +kernel
theorem zd_X_fits_114 : decode zc_X_fits 114 = .ok (.iload_n 1, 1) := by decide +kernel
theorem zd_X_fits_115 : decode zc_X_fits 115 = .ok (.if_icmp .ge 77, 3) := by decide +kernel
theorem zd_X_fits_118 : decode zc_X_fits 118 = .ok (.aload_n 0, 1) := by decide +kernel
theorem zd_X_fits_119 : decode zc_X_fits 119 = .ok (.getfield 35, 3) := by decide +kernel
theorem zd_X_fits_122 : decode zc_X_fits 122 = .ok (.aload_n 0, 1) := by decide +kernel
theorem zd_X_fits_123 : decode zc_X_fits 123 = .ok (.getfield 17, 3) := by decide +kernel
theorem zd_X_fits_126 : decode zc_X_fits 126 = .ok (.iload_n 2, 1) := by decide +kernel
theorem zd_X_fits_127 : decode zc_X_fits 127 = .ok (.iaload, 1) := by decide +kernel
theorem zd_X_fits_128 : decode zc_X_fits 128 = .ok (.laload, 1) := by decide +kernel
theorem zd_X_fits_129 : decode zc_X_fits 129 = .ok (.aload_n 0, 1) := by decide +kernel
theorem zd_X_fits_130 : decode zc_X_fits 130 = .ok (.getfield 23, 3) := by decide +kernel
theorem zd_X_fits_133 : decode zc_X_fits 133 = .ok (.iload_n 2, 1) := by decide +kernel
theorem zd_X_fits_134 : decode zc_X_fits 134 = .ok (.iaload, 1) := by decide +kernel
theorem zd_X_fits_135 : decode zc_X_fits 135 = .ok (.i2l, 1) := by decide +kernel
theorem zd_X_fits_136 : decode zc_X_fits 136 = .ok (.lmul, 1) := by decide +kernel
theorem zd_X_fits_137 : decode zc_X_fits 137 = .ok (.aload_n 0, 1) := by decide +kernel
theorem zd_X_fits_138 : decode zc_X_fits 138 = .ok (.getfield 39, 3) := by decide +kernel
theorem zd_X_fits_141 : decode zc_X_fits 141 = .ok (.aload_n 0, 1) := by decide +kernel
theorem zd_X_fits_142 : decode zc_X_fits 142 = .ok (.getfield 20, 3) := by decide +kernel
theorem zd_X_fits_145 : decode zc_X_fits 145 = .ok (.iload_n 2, 1) := by decide +kernel
theorem zd_X_fits_146 : decode zc_X_fits 146 = .ok (.iaload, 1) := by decide +kernel
theorem zd_X_fits_147 : decode zc_X_fits 147 = .ok (.laload, 1) := by decide +kernel
theorem zd_X_fits_148 : decode zc_X_fits 148 = .ok (.lmul, 1) := by decide +kernel
theorem zd_X_fits_149 : decode zc_X_fits 149 = .ok (.aload_n 0, 1) := by decide +kernel
theorem zd_X_fits_150 : decode zc_X_fits 150 = .ok (.getfield 35, 3) := by decide +kernel
theorem zd_X_fits_153 : decode zc_X_fits 153 = .ok (.aload_n 0, 1) := by decide +kernel
theorem zd_X_fits_154 : decode zc_X_fits 154 = .ok (.getfield 20, 3) := by decide +kernel
theorem zd_X_fits_157 : decode zc_X_fits 157 = .ok (.iload_n 2, 1) := by decide +kernel
theorem zd_X_fits_158 : decode zc_X_fits 158 = .ok (.iaload, 1) := by decide +kernel
theorem zd_X_fits_159 : decode zc_X_fits 159 = .ok (.laload, 1) := by decide +kernel
theorem zd_X_fits_160 : decode zc_X_fits 160 = .ok (.aload_n 0, 1) := by decide +kernel
theorem zd_X_fits_161 : decode zc_X_fits 161 = .ok (.getfield 26, 3) := by decide +kernel
theorem zd_X_fits_164 : decode zc_X_fits 164 = .ok (.iload_n 2, 1) := by decide +kernel
theorem zd_X_fits_165 : decode zc_X_fits 165 = .ok (.iaload, 1) := by decide +kernel
theorem zd_X_fits_166 : decode zc_X_fits 166 = .ok (.i2l, 1) := by decide +kernel
theorem zd_X_fits_167 : decode zc_X_fits 167 = .ok (.lmul, 1) := by decide +kernel
theorem zd_X_fits_168 : decode zc_X_fits 168 = .ok (.aload_n 0, 1) := by decide +kernel
theorem zd_X_fits_169 : decode zc_X_fits 169 = .ok (.getfield 39, 3) := by decide +kernel
theorem zd_X_fits_172 : decode zc_X_fits 172 = .ok (.aload_n 0, 1) := by decide +kernel
theorem zd_X_fits_173 : decode zc_X_fits 173 = .ok (.getfield 17, 3) := by decide +kernel
theorem zd_X_fits_176 : decode zc_X_fits 176 = .ok (.iload_n 2, 1) := by decide +kernel
theorem zd_X_fits_177 : decode zc_X_fits 177 = .ok (.iaload, 1) := by decide +kernel
theorem zd_X_fits_178 : decode zc_X_fits 178 = .ok (.laload, 1) := by decide +kernel
theorem zd_X_fits_179 : decode zc_X_fits 179 = .ok (.lmul, 1) := by decide +kernel
theorem zd_X_fits_180 : decode zc_X_fits 180 = .ok (.lcmp, 1) := by decide +kernel
theorem zd_X_fits_181 : decode zc_X_fits 181 = .ok (.ifCond .eq 5, 3) := by decide +kernel
theorem zd_X_fits_184 : decode zc_X_fits 184 = .ok (.iconst 0, 1) := by decide +kernel
theorem zd_X_fits_185 : decode zc_X_fits 185 = .ok (.ireturn, 1) := by decide +kernel
theorem zd_X_fits_186 : decode zc_X_fits 186 = .ok (.iinc 2 1, 3) := by decide +kernel
theorem zd_X_fits_189 : decode zc_X_fits 189 = .ok (.goto (-76), 3) := by decide +kernel
theorem zd_X_fits_192 : decode zc_X_fits 192 = .ok (.iconst 1, 1) := by decide +kernel
theorem zd_X_fits_193 : decode zc_X_fits 193 = .ok (.ireturn, 1) := by decide +kernel
theorem zd_X_reach_0 : decode zc_X_reach 0 = .ok (.aload_n 0, 1) := by decide +kernel
theorem zd_X_reach_1 : decode zc_X_reach 1 = .ok (.getfield 17, 3) := by decide +kernel
theorem zd_X_reach_4 : decode zc_X_reach 4 = .ok (.iload_n 1, 1) := by decide +kernel
theorem zd_X_reach_5 : decode zc_X_reach 5 = .ok (.iaload, 1) := by decide +kernel
theorem zd_X_reach_6 : decode zc_X_reach 6 = .ok (.istore_n 2, 1) := by decide +kernel
theorem zd_X_reach_7 : decode zc_X_reach 7 = .ok (.aload_n 0, 1) := by decide +kernel
theorem zd_X_reach_8 : decode zc_X_reach 8 = .ok (.getfield 20, 3) := by decide +kernel
theorem zd_X_reach_11 : decode zc_X_reach 11 = .ok (.iload_n 1, 1) := by decide +kernel
theorem zd_X_reach_12 : decode zc_X_reach 12 = .ok (.iaload, 1) := by decide +kernel
theorem zd_X_reach_13 : decode zc_X_reach 13 = .ok (.istore_n 3, 1) := by decide +kernel
theorem zd_X_reach_14 : decode zc_X_reach 14 = .ok (.aload_n 0, 1) := by decide +kernel
theorem zd_X_reach_15 : decode zc_X_reach 15 = .ok (.getfield 32, 3) := by decide +kernel
theorem zd_X_reach_18 : decode zc_X_reach 18 = .ok (.iload_n 2, 1) := by decide +kernel
theorem zd_X_reach_19 : decode zc_X_reach 19 = .ok (.iaload, 1) := by decide +kernel
theorem zd_X_reach_20 : decode zc_X_reach 20 = .ok (.iconst (-1), 1) := by decide +kernel
theorem zd_X_reach_21 : decode zc_X_reach 21 = .ok (.if_icmp .ne 7, 3) := by decide +kernel
theorem zd_X_reach_24 : decode zc_X_reach 24 = .ok (.iconst 1, 1) := by decide +kernel
theorem zd_X_reach_25 : decode zc_X_reach 25 = .ok (.goto 4, 3) := by decide +kernel
theorem zd_X_reach_28 : decode zc_X_reach 28 = .ok (.iconst 0, 1) := by decide +kernel
theorem zd_X_reach_29 : decode zc_X_reach 29 = .ok (.aload_n 0, 1) := by decide +kernel
theorem zd_X_reach_30 : decode zc_X_reach 30 = .ok (.getfield 32, 3) := by decide +kernel
theorem zd_X_reach_33 : decode zc_X_reach 33 = .ok (.iload_n 3, 1) := by decide +kernel
theorem zd_X_reach_34 : decode zc_X_reach 34 = .ok (.iaload, 1) := by decide +kernel
theorem zd_X_reach_35 : decode zc_X_reach 35 = .ok (.iconst (-1), 1) := by decide +kernel
theorem zd_X_reach_36 : decode zc_X_reach 36 = .ok (.if_icmp .ne 7, 3) := by decide +kernel
theorem zd_X_reach_39 : decode zc_X_reach 39 = .ok (.iconst 1, 1) := by decide +kernel
theorem zd_X_reach_40 : decode zc_X_reach 40 = .ok (.goto 4, 3) := by decide +kernel
theorem zd_X_reach_43 : decode zc_X_reach 43 = .ok (.iconst 0, 1) := by decide +kernel
theorem zd_X_reach_44 : decode zc_X_reach 44 = .ok (.if_icmp .ne 5, 3) := by decide +kernel
theorem zd_X_reach_47 : decode zc_X_reach 47 = .ok (.iconst 0, 1) := by decide +kernel
theorem zd_X_reach_48 : decode zc_X_reach 48 = .ok (.ireturn, 1) := by decide +kernel
theorem zd_X_reach_49 : decode zc_X_reach 49 = .ok (.aload_n 0, 1) := by decide +kernel
theorem zd_X_reach_50 : decode zc_X_reach 50 = .ok (.getfield 32, 3) := by decide +kernel
theorem zd_X_reach_53 : decode zc_X_reach 53 = .ok (.iload_n 3, 1) := by decide +kernel
theorem zd_X_reach_54 : decode zc_X_reach 54 = .ok (.iaload, 1) := by decide +kernel
theorem zd_X_reach_55 : decode zc_X_reach 55 = .ok (.iconst (-1), 1) := by decide +kernel
theorem zd_X_reach_56 : decode zc_X_reach 56 = .ok (.if_icmp .ne 51, 3) := by decide +kernel
theorem zd_X_reach_59 : decode zc_X_reach 59 = .ok (.aload_n 0, 1) := by decide +kernel
theorem zd_X_reach_60 : decode zc_X_reach 60 = .ok (.iload_n 3, 1) := by decide +kernel
theorem zd_X_reach_61 : decode zc_X_reach 61 = .ok (.aload_n 0, 1) := by decide +kernel
theorem zd_X_reach_62 : decode zc_X_reach 62 = .ok (.getfield 35, 3) := by decide +kernel
theorem zd_X_reach_65 : decode zc_X_reach 65 = .ok (.iload_n 2, 1) := by decide +kernel
theorem zd_X_reach_66 : decode zc_X_reach 66 = .ok (.laload, 1) := by decide +kernel
theorem zd_X_reach_67 : decode zc_X_reach 67 = .ok (.aload_n 0, 1) := by decide +kernel
theorem zd_X_reach_68 : decode zc_X_reach 68 = .ok (.getfield 23, 3) := by decide +kernel
theorem zd_X_reach_71 : decode zc_X_reach 71 = .ok (.iload_n 1, 1) := by decide +kernel
theorem zd_X_reach_72 : decode zc_X_reach 72 = .ok (.iaload, 1) := by decide +kernel
theorem zd_X_reach_73 : decode zc_X_reach 73 = .ok (.i2l, 1) := by decide +kernel
theorem zd_X_reach_74 : decode zc_X_reach 74 = .ok (.lmul, 1) := by decide +kernel
theorem zd_X_reach_75 : decode zc_X_reach 75 = .ok (.aload_n 0, 1) := by decide +kernel
theorem zd_X_reach_76 : decode zc_X_reach 76 = .ok (.getfield 39, 3) := by decide +kernel
theorem zd_X_reach_79 : decode zc_X_reach 79 = .ok (.iload_n 2, 1) := by decide +kernel
theorem zd_X_reach_80 : decode zc_X_reach 80 = .ok (.laload, 1) := by decide +kernel
theorem zd_X_reach_81 : decode zc_X_reach 81 = .ok (.aload_n 0, 1) := by decide +kernel
theorem zd_X_reach_82 : decode zc_X_reach 82 = .ok (.getfield 26, 3) := by decide +kernel
theorem zd_X_reach_85 : decode zc_X_reach 85 = .ok (.iload_n 1, 1) := by decide +kernel
theorem zd_X_reach_86 : decode zc_X_reach 86 = .ok (.iaload, 1) := by decide +kernel
theorem zd_X_reach_87 : decode zc_X_reach 87 = .ok (.i2l, 1) := by decide +kernel
theorem zd_X_reach_88 : decode zc_X_reach 88 = .ok (.lmul, 1) := by decide +kernel
theorem zd_X_reach_89 : decode zc_X_reach 89 = .ok (.invokevirtual 100, 3) := by decide +kernel
theorem zd_X_reach_92 : decode zc_X_reach 92 = .ok (.aload_n 0, 1) := by decide +kernel
theorem zd_X_reach_93 : decode zc_X_reach 93 = .ok (.getfield 32, 3) := by decide +kernel
theorem zd_X_reach_96 : decode zc_X_reach 96 = .ok (.iload_n 3, 1) := by decide +kernel
theorem zd_X_reach_97 : decode zc_X_reach 97 = .ok (.aload_n 0, 1) := by decide +kernel
theorem zd_X_reach_98 : decode zc_X_reach 98 = .ok (.getfield 32, 3) := by decide +kernel
theorem zd_X_reach_101 : decode zc_X_reach 101 = .ok (.iload_n 2, 1) := by decide +kernel
theorem zd_X_reach_102 : decode zc_X_reach 102 = .ok (.iaload, 1) := by decide +kernel
theorem zd_X_reach_103 : decode zc_X_reach 103 = .ok (.iastore, 1) := by decide +kernel
theorem zd_X_reach_104 : decode zc_X_reach 104 = .ok (.goto 48, 3) := by decide +kernel
theorem zd_X_reach_107 : decode zc_X_reach 107 = .ok (.aload_n 0, 1) := by decide +kernel
theorem zd_X_reach_108 : decode zc_X_reach 108 = .ok (.iload_n 2, 1) := by decide +kernel
theorem zd_X_reach_109 : decode zc_X_reach 109 = .ok (.aload_n 0, 1) := by decide +kernel
theorem zd_X_reach_110 : decode zc_X_reach 110 = .ok (.getfield 35, 3) := by decide +kernel
theorem zd_X_reach_113 : decode zc_X_reach 113 = .ok (.iload_n 3, 1) := by decide +kernel
theorem zd_X_reach_114 : decode zc_X_reach 114 = .ok (.laload, 1) := by decide +kernel
theorem zd_X_reach_115 : decode zc_X_reach 115 = .ok (.aload_n 0, 1) := by decide +kernel
theorem zd_X_reach_116 : decode zc_X_reach 116 = .ok (.getfield 26, 3) := by decide +kernel
theorem zd_X_reach_119 : decode zc_X_reach 119 = .ok (.iload_n 1, 1) := by decide +kernel
theorem zd_X_reach_120 : decode zc_X_reach 120 = .ok (.iaload, 1) := by decide +kernel
theorem zd_X_reach_121 : decode zc_X_reach 121 = .ok (.i2l, 1) := by decide +kernel
theorem zd_X_reach_122 : decode zc_X_reach 122 = .ok (.lmul, 1) := by decide +kernel
theorem zd_X_reach_123 : decode zc_X_reach 123 = .ok (.aload_n 0, 1) := by decide +kernel
theorem zd_X_reach_124 : decode zc_X_reach 124 = .ok (.getfield 39, 3) := by decide +kernel
theorem zd_X_reach_127 : decode zc_X_reach 127 = .ok (.iload_n 3, 1) := by decide +kernel
theorem zd_X_reach_128 : decode zc_X_reach 128 = .ok (.laload, 1) := by decide +kernel
theorem zd_X_reach_129 : decode zc_X_reach 129 = .ok (.aload_n 0, 1) := by decide +kernel
theorem zd_X_reach_130 : decode zc_X_reach 130 = .ok (.getfield 23, 3) := by decide +kernel
theorem zd_X_reach_133 : decode zc_X_reach 133 = .ok (.iload_n 1, 1) := by decide +kernel
theorem zd_X_reach_134 : decode zc_X_reach 134 = .ok (.iaload, 1) := by decide +kernel
theorem zd_X_reach_135 : decode zc_X_reach 135 = .ok (.i2l, 1) := by decide +kernel
theorem zd_X_reach_136 : decode zc_X_reach 136 = .ok (.lmul, 1) := by decide +kernel
theorem zd_X_reach_137 : decode zc_X_reach 137 = .ok (.invokevirtual 100, 3) := by decide +kernel
theorem zd_X_reach_140 : decode zc_X_reach 140 = .ok (.aload_n 0, 1) := by decide +kernel
theorem zd_X_reach_141 : decode zc_X_reach 141 = .ok (.getfield 32, 3) := by decide +kernel
theorem zd_X_reach_144 : decode zc_X_reach 144 = .ok (.iload_n 2, 1) := by decide +kernel
theorem zd_X_reach_145 : decode zc_X_reach 145 = .ok (.aload_n 0, 1) := by decide +kernel
theorem zd_X_reach_146 : decode zc_X_reach 146 = .ok (.getfield 32, 3) := by decide +kernel
theorem zd_X_reach_149 : decode zc_X_reach 149 = .ok (.iload_n 3, 1) := by decide +kernel
theorem zd_X_reach_150 : decode zc_X_reach 150 = .ok (.iaload, 1) := by decide +kernel
theorem zd_X_reach_151 : decode zc_X_reach 151 = .ok (.iastore, 1) := by decide +kernel
theorem zd_X_reach_152 : decode zc_X_reach 152 = .ok (.iconst 1, 1) := by decide +kernel
theorem zd_X_reach_153 : decode zc_X_reach 153 = .ok (.ireturn, 1) := by decide +kernel
theorem zd_X_leastOf_0 : decode zc_X_leastOf 0 = .ok (.iconst 1, 1) := by decide +kernel
theorem zd_X_leastOf_1 : decode zc_X_leastOf 1 = .ok (.istore_n 2, 1) := by decide +kernel
theorem zd_X_leastOf_2 : decode zc_X_leastOf 2 = .ok (.iload_n 2, 1) := by decide +kernel
theorem zd_X_leastOf_3 : decode zc_X_leastOf 3 = .ok (.sipush 400, 3) := by decide +kernel
theorem zd_X_leastOf_6 : decode zc_X_leastOf 6 = .ok (.if_icmp .gt 71, 3) := by decide +kernel
theorem zd_X_leastOf_9 : decode zc_X_leastOf 9 = .ok (.iconst 1, 1) := by decide +kernel
theorem zd_X_leastOf_10 : decode zc_X_leastOf 10 = .ok (.istore_n 3, 1) := by decide +kernel
theorem zd_X_leastOf_11 : decode zc_X_leastOf 11 = .ok (.iconst 0, 1) := by decide +kernel
theorem zd_X_leastOf_12 : decode zc_X_leastOf 12 = .ok (.istore 4, 2) := by decide +kernel
theorem zd_X_leastOf_14 : decode zc_X_leastOf 14 = .ok (.iload 4, 2) := by decide +kernel
theorem zd_X_leastOf_16 : decode zc_X_leastOf 16 = .ok (.aload_n 0, 1) := by decide +kernel
theorem zd_X_leastOf_17 : decode zc_X_leastOf 17 = .ok (.getfield 7, 3) := by decide +kernel
theorem zd_X_leastOf_20 : decode zc_X_leastOf 20 = .ok (.if_icmp .ge 45, 3) := by decide +kernel
theorem zd_X_leastOf_23 : decode zc_X_leastOf 23 = .ok (.aload_n 0, 1) := by decide +kernel
theorem zd_X_leastOf_24 : decode zc_X_leastOf 24 = .ok (.getfield 32, 3) := by decide +kernel
theorem zd_X_leastOf_27 : decode zc_X_leastOf 27 = .ok (.iload 4, 2) := by decide +kernel
theorem zd_X_leastOf_29 : decode zc_X_leastOf 29 = .ok (.iaload, 1) := by decide +kernel
theorem zd_X_leastOf_30 : decode zc_X_leastOf 30 = .ok (.iload_n 1, 1) := by decide +kernel
theorem zd_X_leastOf_31 : decode zc_X_leastOf 31 = .ok (.if_icmp .ne 28, 3) := by decide +kernel
theorem zd_X_leastOf_34 : decode zc_X_leastOf 34 = .ok (.iload_n 2, 1) := by decide +kernel
theorem zd_X_leastOf_35 : decode zc_X_leastOf 35 = .ok (.i2l, 1) := by decide +kernel
theorem zd_X_leastOf_36 : decode zc_X_leastOf 36 = .ok (.aload_n 0, 1) := by decide +kernel
theorem zd_X_leastOf_37 : decode zc_X_leastOf 37 = .ok (.getfield 35, 3) := by decide +kernel
theorem zd_X_leastOf_40 : decode zc_X_leastOf 40 = .ok (.iload 4, 2) := by decide +kernel
theorem zd_X_leastOf_42 : decode zc_X_leastOf 42 = .ok (.laload, 1) := by decide +kernel
theorem zd_X_leastOf_43 : decode zc_X_leastOf 43 = .ok (.lmul, 1) := by decide +kernel
theorem zd_X_leastOf_44 : decode zc_X_leastOf 44 = .ok (.aload_n 0, 1) := by decide +kernel
theorem zd_X_leastOf_45 : decode zc_X_leastOf 45 = .ok (.getfield 39, 3) := by decide +kernel
theorem zd_X_leastOf_48 : decode zc_X_leastOf 48 = .ok (.iload 4, 2) := by decide +kernel
theorem zd_X_leastOf_50 : decode zc_X_leastOf 50 = .ok (.laload, 1) := by decide +kernel
theorem zd_X_leastOf_51 : decode zc_X_leastOf 51 = .ok (.lrem, 1) := by decide +kernel
theorem zd_X_leastOf_52 : decode zc_X_leastOf 52 = .ok (.lconst 0, 1) := by decide +kernel
theorem zd_X_leastOf_53 : decode zc_X_leastOf 53 = .ok (.lcmp, 1) := by decide +kernel
theorem zd_X_leastOf_54 : decode zc_X_leastOf 54 = .ok (.ifCond .eq 5, 3) := by decide +kernel
theorem zd_X_leastOf_57 : decode zc_X_leastOf 57 = .ok (.iconst 0, 1) := by decide +kernel
theorem zd_X_leastOf_58 : decode zc_X_leastOf 58 = .ok (.istore_n 3, 1) := by decide +kernel
theorem zd_X_leastOf_59 : decode zc_X_leastOf 59 = .ok (.iinc 4 1, 3) := by decide +kernel
theorem zd_X_leastOf_62 : decode zc_X_leastOf 62 = .ok (.goto (-48), 3) := by decide +kernel
theorem zd_X_leastOf_65 : decode zc_X_leastOf 65 = .ok (.iload_n 3, 1) := by decide +kernel
theorem zd_X_leastOf_66 : decode zc_X_leastOf 66 = .ok (.ifCond .eq 5, 3) := by decide +kernel
theorem zd_X_leastOf_69 : decode zc_X_leastOf 69 = .ok (.iload_n 2, 1) := by decide +kernel
theorem zd_X_leastOf_70 : decode zc_X_leastOf 70 = .ok (.ireturn, 1) := by decide +kernel
theorem zd_X_leastOf_71 : decode zc_X_leastOf 71 = .ok (.iinc 2 1, 3) := by decide +kernel
theorem zd_X_leastOf_74 : decode zc_X_leastOf 74 = .ok (.goto (-72), 3) := by decide +kernel
theorem zd_X_leastOf_77 : decode zc_X_leastOf 77 = .ok (.iconst 0, 1) := by decide +kernel
theorem zd_X_leastOf_78 : decode zc_X_leastOf 78 = .ok (.ireturn, 1) := by decide +kernel
theorem zd_X_findCounts_0 : decode zc_X_findCounts 0 = .ok (.aload_n 0, 1) := by decide +kernel
theorem zd_X_findCounts_1 : decode zc_X_findCounts 1 = .ok (.iconst 0, 1) := by decide +kernel
theorem zd_X_findCounts_2 : decode zc_X_findCounts 2 = .ok (.putfield 108, 3) := by decide +kernel
theorem zd_X_findCounts_5 : decode zc_X_findCounts 5 = .ok (.aload_n 0, 1) := by decide +kernel
theorem zd_X_findCounts_6 : decode zc_X_findCounts 6 = .ok (.iconst 0, 1) := by decide +kernel
theorem zd_X_findCounts_7 : decode zc_X_findCounts 7 = .ok (.putfield 111, 3) := by decide +kernel
theorem zd_X_findCounts_10 : decode zc_X_findCounts 10 = .ok (.lconst 0, 1) := by decide +kernel
theorem zd_X_findCounts_11 : decode zc_X_findCounts 11 = .ok (.lstore_n 1, 1) := by decide +kernel
theorem zd_X_findCounts_12 : decode zc_X_findCounts 12 = .ok (.iconst 0, 1) := by decide +kernel
theorem zd_X_findCounts_13 : decode zc_X_findCounts 13 = .ok (.istore_n 3, 1) := by decide +kernel
theorem zd_X_findCounts_14 : decode zc_X_findCounts 14 = .ok (.iload_n 3, 1) := by decide +kernel
theorem zd_X_findCounts_15 : decode zc_X_findCounts 15 = .ok (.aload_n 0, 1) := by decide +kernel
theorem zd_X_findCounts_16 : decode zc_X_findCounts 16 = .ok (.getfield 7, 3) := by decide +kernel
theorem zd_X_findCounts_19 : decode zc_X_findCounts 19 = .ok (.if_icmp .ge 137, 3) := by decide +kernel
theorem zd_X_findCounts_22 : decode zc_X_findCounts 22 = .ok (.aload_n 0, 1) := by decide +kernel
theorem zd_X_findCounts_23 : decode zc_X_findCounts 23 = .ok (.getfield 32, 3) := by decide +kernel
theorem zd_X_findCounts_26 : decode zc_X_findCounts 26 = .ok (.iload_n 3, 1) := by decide +kernel
theorem zd_X_findCounts_27 : decode zc_X_findCounts 27 = .ok (.iaload, 1) := by decide +kernel
theorem zd_X_findCounts_28 : decode zc_X_findCounts 28 = .ok (.iload_n 3, 1) := by decide +kernel
theorem zd_X_findCounts_29 : decode zc_X_findCounts 29 = .ok (.if_icmp .eq 6, 3) := by decide +kernel
theorem zd_X_findCounts_32 : decode zc_X_findCounts 32 = .ok (.goto 118, 3) := by decide +kernel
theorem zd_X_findCounts_35 : decode zc_X_findCounts 35 = .ok (.aload_n 0, 1) := by decide +kernel
theorem zd_X_findCounts_36 : decode zc_X_findCounts 36 = .ok (.dup, 1) := by decide +kernel
theorem zd_X_findCounts_37 : decode zc_X_findCounts 37 = .ok (.getfield 111, 3) := by decide +kernel
theorem zd_X_findCounts_40 : decode zc_X_findCounts 40 = .ok (.iconst 1, 1) := by decide +kernel
theorem zd_X_findCounts_41 : decode zc_X_findCounts 41 = .ok (.iadd, 1) := by decide +kernel
theorem zd_X_findCounts_42 : decode zc_X_findCounts 42 = .ok (.putfield 111, 3) := by decide +kernel
theorem zd_X_findCounts_45 : decode zc_X_findCounts 45 = .ok (.aload_n 0, 1) := by decide +kernel
theorem zd_X_findCounts_46 : decode zc_X_findCounts 46 = .ok (.iload_n 3, 1) := by decide +kernel
theorem zd_X_findCounts_47 : decode zc_X_findCounts 47 = .ok (.invokevirtual 114, 3) := by decide +kernel
theorem zd_X_findCounts_50 : decode zc_X_findCounts 50 = .ok (.istore 4, 2) := by decide +kernel
theorem zd_X_findCounts_52 : decode zc_X_findCounts 52 = .ok (.iload 4, 2) := by decide +kernel
theorem zd_X_findCounts_54 : decode zc_X_findCounts 54 = .ok (.ifCond .ne 8, 3) := by decide +kernel
theorem zd_X_findCounts_57 : decode zc_X_findCounts 57 = .ok (.aload_n 0, 1) := by decide +kernel
theorem zd_X_findCounts_58 : decode zc_X_findCounts 58 = .ok (.iconst 1, 1) := by decide +kernel
theorem zd_X_findCounts_59 : decode zc_X_findCounts 59 = .ok (.putfield 108, 3) := by decide +kernel
theorem zd_X_findCounts_62 : decode zc_X_findCounts 62 = .ok (.iconst 0, 1) := by decide +kernel
theorem zd_X_findCounts_63 : decode zc_X_findCounts 63 = .ok (.istore 5, 2) := by decide +kernel
theorem zd_X_findCounts_65 : decode zc_X_findCounts 65 = .ok (.iload 5, 2) := by decide +kernel
theorem zd_X_findCounts_67 : decode zc_X_findCounts 67 = .ok (.aload_n 0, 1) := by decide +kernel
theorem zd_X_findCounts_68 : decode zc_X_findCounts 68 = .ok (.getfield 7, 3) := by decide +kernel
theorem zd_X_findCounts_71 : decode zc_X_findCounts 71 = .ok (.if_icmp .ge 79, 3) := by decide +kernel
theorem zd_X_findCounts_74 : decode zc_X_findCounts 74 = .ok (.aload_n 0, 1) := by decide +kernel
theorem zd_X_findCounts_75 : decode zc_X_findCounts 75 = .ok (.getfield 32, 3) := by decide +kernel
theorem zd_X_findCounts_78 : decode zc_X_findCounts 78 = .ok (.iload 5, 2) := by decide +kernel
theorem zd_X_findCounts_80 : decode zc_X_findCounts 80 = .ok (.iaload, 1) := by decide +kernel
theorem zd_X_findCounts_81 : decode zc_X_findCounts 81 = .ok (.iload_n 3, 1) := by decide +kernel
theorem zd_X_findCounts_82 : decode zc_X_findCounts 82 = .ok (.if_icmp .ne 62, 3) := by decide +kernel
theorem zd_X_findCounts_85 : decode zc_X_findCounts 85 = .ok (.iload 4, 2) := by decide +kernel
theorem zd_X_findCounts_87 : decode zc_X_findCounts 87 = .ok (.ifCond .ne 6, 3) := by decide +kernel
theorem zd_X_findCounts_90 : decode zc_X_findCounts 90 = .ok (.goto 54, 3) := by decide +kernel
theorem zd_X_findCounts_93 : decode zc_X_findCounts 93 = .ok (.iload 4, 2) := by decide +kernel
theorem zd_X_findCounts_95 : decode zc_X_findCounts 95 = .ok (.i2l, 1) := by decide +kernel
theorem zd_X_findCounts_96 : decode zc_X_findCounts 96 = .ok (.aload_n 0, 1) := by decide +kernel
theorem zd_X_findCounts_97 : decode zc_X_findCounts 97 = .ok (.getfield 35, 3) := by decide +kernel
theorem zd_X_findCounts_100 : decode zc_X_findCounts 100 = .ok (.iload 5, 2) := by decide +kernel
theorem zd_X_findCounts_102 : decode zc_X_findCounts 102 = .ok (.laload, 1) := by decide +kernel
theorem zd_X_findCounts_103 : decode zc_X_findCounts 103 = .ok (.lmul, 1) := by decide +kernel
theorem zd_X_findCounts_104 : decode zc_X_findCounts 104 = .ok (.aload_n 0, 1) := by decide +kernel
theorem zd_X_findCounts_105 : decode zc_X_findCounts 105 = .ok (.getfield 39, 3) := by decide +kernel
theorem zd_X_findCounts_108 : decode zc_X_findCounts 108 = .ok (.iload 5, 2) := by decide +kernel
theorem zd_X_findCounts_110 : decode zc_X_findCounts 110 = .ok (.laload, 1) := by decide +kernel
theorem zd_X_findCounts_111 : decode zc_X_findCounts 111 = .ok (.ldiv, 1) := by decide +kernel
theorem zd_X_findCounts_112 : decode zc_X_findCounts 112 = .ok (.lstore 6, 2) := by decide +kernel
theorem zd_X_findCounts_114 : decode zc_X_findCounts 114 = .ok (.lload_n 1, 1) := by decide +kernel
theorem zd_X_findCounts_115 : decode zc_X_findCounts 115 = .ok (.lload 6, 2) := by decide +kernel
theorem zd_X_findCounts_117 : decode zc_X_findCounts 117 = .ok (.ladd, 1) := by decide +kernel
theorem zd_X_findCounts_118 : decode zc_X_findCounts 118 = .ok (.lstore_n 1, 1) := by decide +kernel
theorem zd_X_findCounts_119 : decode zc_X_findCounts 119 = .ok (.aload_n 0, 1) := by decide +kernel
theorem zd_X_findCounts_120 : decode zc_X_findCounts 120 = .ok (.getfield 42, 3) := by decide +kernel
theorem zd_X_findCounts_123 : decode zc_X_findCounts 123 = .ok (.iload 5, 2) := by decide +kernel
theorem zd_X_findCounts_125 : decode zc_X_findCounts 125 = .ok (.lload 6, 2) := by decide +kernel
theorem zd_X_findCounts_127 : decode zc_X_findCounts 127 = .ok (.ldc2_w 118, 3) := by decide +kernel
theorem zd_X_findCounts_130 : decode zc_X_findCounts 130 = .ok (.lcmp, 1) := by decide +kernel
theorem zd_X_findCounts_131 : decode zc_X_findCounts 131 = .ok (.ifCond .le 9, 3) := by decide +kernel
theorem zd_X_findCounts_134 : decode zc_X_findCounts 134 = .ok (.sipush 400, 3) := by decide +kernel
theorem zd_X_findCounts_137 : decode zc_X_findCounts 137 = .ok (.goto 6, 3) := by decide +kernel
theorem zd_X_findCounts_140 : decode zc_X_findCounts 140 = .ok (.lload 6, 2) := by decide +kernel
theorem zd_X_findCounts_142 : decode zc_X_findCounts 142 = .ok (.l2i, 1) := by decide +kernel
theorem zd_X_findCounts_143 : decode zc_X_findCounts 143 = .ok (.iastore, 1) := by decide +kernel
theorem zd_X_findCounts_144 : decode zc_X_findCounts 144 = .ok (.iinc 5 1, 3) := by decide +kernel
theorem zd_X_findCounts_147 : decode zc_X_findCounts 147 = .ok (.goto (-82), 3) := by decide +kernel
theorem zd_X_findCounts_150 : decode zc_X_findCounts 150 = .ok (.iinc 3 1, 3) := by decide +kernel
theorem zd_X_findCounts_153 : decode zc_X_findCounts 153 = .ok (.goto (-139), 3) := by decide +kernel
theorem zd_X_findCounts_156 : decode zc_X_findCounts 156 = .ok (.aload_n 0, 1) := by decide +kernel
theorem zd_X_findCounts_157 : decode zc_X_findCounts 157 = .ok (.aload_n 0, 1) := by decide +kernel
theorem zd_X_findCounts_158 : decode zc_X_findCounts 158 = .ok (.getfield 108, 3) := by decide +kernel
theorem zd_X_findCounts_161 : decode zc_X_findCounts 161 = .ok (.ifCond .ne 11, 3) := by decide +kernel
theorem zd_X_findCounts_164 : decode zc_X_findCounts 164 = .ok (.lload_n 1, 1) := by decide +kernel
theorem zd_X_findCounts_165 : decode zc_X_findCounts 165 = .ok (.ldc2_w 118, 3) := by decide +kernel
theorem zd_X_findCounts_168 : decode zc_X_findCounts 168 = .ok (.lcmp, 1) := by decide +kernel
theorem zd_X_findCounts_169 : decode zc_X_findCounts 169 = .ok (.ifCond .le 7, 3) := by decide +kernel
theorem zd_X_findCounts_172 : decode zc_X_findCounts 172 = .ok (.iconst 1, 1) := by decide +kernel
theorem zd_X_findCounts_173 : decode zc_X_findCounts 173 = .ok (.goto 4, 3) := by decide +kernel
theorem zd_X_findCounts_176 : decode zc_X_findCounts 176 = .ok (.iconst 0, 1) := by decide +kernel
theorem zd_X_findCounts_177 : decode zc_X_findCounts 177 = .ok (.putfield 108, 3) := by decide +kernel
theorem zd_X_findCounts_180 : decode zc_X_findCounts 180 = .ok (.return_, 1) := by decide +kernel
theorem zd_X_canBeDone_0 : decode zc_X_canBeDone 0 = .ok (.aload_n 0, 1) := by decide +kernel
theorem zd_X_canBeDone_1 : decode zc_X_canBeDone 1 = .ok (.getfield 45, 3) := by decide +kernel
theorem zd_X_canBeDone_4 : decode zc_X_canBeDone 4 = .ok (.iload_n 1, 1) := by decide +kernel
theorem zd_X_canBeDone_5 : decode zc_X_canBeDone 5 = .ok (.iaload, 1) := by decide +kernel
theorem zd_X_canBeDone_6 : decode zc_X_canBeDone 6 = .ok (.ifCond .ne 5, 3) := by decide +kernel
theorem zd_X_canBeDone_9 : decode zc_X_canBeDone 9 = .ok (.iconst 0, 1) := by decide +kernel
theorem zd_X_canBeDone_10 : decode zc_X_canBeDone 10 = .ok (.ireturn, 1) := by decide +kernel
theorem zd_X_canBeDone_11 : decode zc_X_canBeDone 11 = .ok (.iconst 0, 1) := by decide +kernel
theorem zd_X_canBeDone_12 : decode zc_X_canBeDone 12 = .ok (.istore_n 2, 1) := by decide +kernel
theorem zd_X_canBeDone_13 : decode zc_X_canBeDone 13 = .ok (.iload_n 2, 1) := by decide +kernel
theorem zd_X_canBeDone_14 : decode zc_X_canBeDone 14 = .ok (.aload_n 0, 1) := by decide +kernel
theorem zd_X_canBeDone_15 : decode zc_X_canBeDone 15 = .ok (.getfield 89, 3) := by decide +kernel
theorem zd_X_canBeDone_18 : decode zc_X_canBeDone 18 = .ok (.if_icmp .ge 36, 3) := by decide +kernel
theorem zd_X_canBeDone_21 : decode zc_X_canBeDone 21 = .ok (.aload_n 0, 1) := by decide +kernel
theorem zd_X_canBeDone_22 : decode zc_X_canBeDone 22 = .ok (.getfield 20, 3) := by decide +kernel
theorem zd_X_canBeDone_25 : decode zc_X_canBeDone 25 = .ok (.iload_n 2, 1) := by decide +kernel
theorem zd_X_canBeDone_26 : decode zc_X_canBeDone 26 = .ok (.iaload, 1) := by decide +kernel
theorem zd_X_canBeDone_27 : decode zc_X_canBeDone 27 = .ok (.iload_n 1, 1) := by decide +kernel
theorem zd_X_canBeDone_28 : decode zc_X_canBeDone 28 = .ok (.if_icmp .ne 20, 3) := by decide +kernel
theorem zd_X_canBeDone_31 : decode zc_X_canBeDone 31 = .ok (.aload_n 0, 1) := by decide +kernel
theorem zd_X_canBeDone_32 : decode zc_X_canBeDone 32 = .ok (.getfield 48, 3) := by decide +kernel
theorem zd_X_canBeDone_35 : decode zc_X_canBeDone 35 = .ok (.iload_n 2, 1) := by decide +kernel
theorem zd_X_canBeDone_36 : decode zc_X_canBeDone 36 = .ok (.iaload, 1) := by decide +kernel
theorem zd_X_canBeDone_37 : decode zc_X_canBeDone 37 = .ok (.aload_n 0, 1) := by decide +kernel
theorem zd_X_canBeDone_38 : decode zc_X_canBeDone 38 = .ok (.getfield 26, 3) := by decide +kernel
theorem zd_X_canBeDone_41 : decode zc_X_canBeDone 41 = .ok (.iload_n 2, 1) := by decide +kernel
theorem zd_X_canBeDone_42 : decode zc_X_canBeDone 42 = .ok (.iaload, 1) := by decide +kernel
theorem zd_X_canBeDone_43 : decode zc_X_canBeDone 43 = .ok (.if_icmp .ge 5, 3) := by decide +kernel
theorem zd_X_canBeDone_46 : decode zc_X_canBeDone 46 = .ok (.iconst 0, 1) := by decide +kernel
theorem zd_X_canBeDone_47 : decode zc_X_canBeDone 47 = .ok (.ireturn, 1) := by decide +kernel
theorem zd_X_canBeDone_48 : decode zc_X_canBeDone 48 = .ok (.iinc 2 1, 3) := by decide +kernel
theorem zd_X_canBeDone_51 : decode zc_X_canBeDone 51 = .ok (.goto (-38), 3) := by decide +kernel
theorem zd_X_canBeDone_54 : decode zc_X_canBeDone 54 = .ok (.iconst 1, 1) := by decide +kernel
theorem zd_X_canBeDone_55 : decode zc_X_canBeDone 55 = .ok (.ireturn, 1) := by decide +kernel
theorem zd_X_round_0 : decode zc_X_round 0 = .ok (.aload_n 0, 1) := by decide +kernel
theorem zd_X_round_1 : decode zc_X_round 1 = .ok (.iconst 0, 1) := by decide +kernel
theorem zd_X_round_2 : decode zc_X_round 2 = .ok (.putfield 120, 3) := by decide +kernel
theorem zd_X_round_5 : decode zc_X_round 5 = .ok (.iconst 0, 1) := by decide +kernel
theorem zd_X_round_6 : decode zc_X_round 6 = .ok (.istore_n 1, 1) := by decide +kernel
theorem zd_X_round_7 : decode zc_X_round 7 = .ok (.iload_n 1, 1) := by decide +kernel
theorem zd_X_round_8 : decode zc_X_round 8 = .ok (.aload_n 0, 1) := by decide +kernel
theorem zd_X_round_9 : decode zc_X_round 9 = .ok (.getfield 89, 3) := by decide +kernel
theorem zd_X_round_12 : decode zc_X_round 12 = .ok (.if_icmp .ge 33, 3) := by decide +kernel
theorem zd_X_round_15 : decode zc_X_round 15 = .ok (.aload_n 0, 1) := by decide +kernel
theorem zd_X_round_16 : decode zc_X_round 16 = .ok (.getfield 48, 3) := by decide +kernel
theorem zd_X_round_19 : decode zc_X_round 19 = .ok (.iload_n 1, 1) := by decide +kernel
theorem zd_X_round_20 : decode zc_X_round 20 = .ok (.aload_n 0, 1) := by decide +kernel
theorem zd_X_round_21 : decode zc_X_round 21 = .ok (.getfield 29, 3) := by decide +kernel
theorem zd_X_round_24 : decode zc_X_round 24 = .ok (.iload_n 1, 1) := by decide +kernel
theorem zd_X_round_25 : decode zc_X_round 25 = .ok (.iaload, 1) := by decide +kernel
theorem zd_X_round_26 : decode zc_X_round 26 = .ok (.iastore, 1) := by decide +kernel
theorem zd_X_round_27 : decode zc_X_round 27 = .ok (.aload_n 0, 1) := by decide +kernel
theorem zd_X_round_28 : decode zc_X_round 28 = .ok (.getfield 51, 3) := by decide +kernel
theorem zd_X_round_31 : decode zc_X_round 31 = .ok (.iload_n 1, 1) := by decide +kernel
theorem zd_X_round_32 : decode zc_X_round 32 = .ok (.aload_n 0, 1) := by decide +kernel
theorem zd_X_round_33 : decode zc_X_round 33 = .ok (.getfield 29, 3) := by decide +kernel
theorem zd_X_round_36 : decode zc_X_round 36 = .ok (.iload_n 1, 1) := by decide +kernel
theorem zd_X_round_37 : decode zc_X_round 37 = .ok (.iaload, 1) := by decide +kernel
theorem zd_X_round_38 : decode zc_X_round 38 = .ok (.iastore, 1) := by decide +kernel
theorem zd_X_round_39 : decode zc_X_round 39 = .ok (.iinc 1 1, 3) := by decide +kernel
theorem zd_X_round_42 : decode zc_X_round 42 = .ok (.goto (-35), 3) := by decide +kernel
theorem zd_X_round_45 : decode zc_X_round 45 = .ok (.iconst 0, 1) := by decide +kernel
theorem zd_X_round_46 : decode zc_X_round 46 = .ok (.istore_n 1, 1) := by decide +kernel
theorem zd_X_round_47 : decode zc_X_round 47 = .ok (.iload_n 1, 1) := by decide +kernel
theorem zd_X_round_48 : decode zc_X_round 48 = .ok (.aload_n 0, 1) := by decide +kernel
theorem zd_X_round_49 : decode zc_X_round 49 = .ok (.getfield 7, 3) := by decide +kernel
theorem zd_X_round_52 : decode zc_X_round 52 = .ok (.if_icmp .ge 21, 3) := by decide +kernel
theorem zd_X_round_55 : decode zc_X_round 55 = .ok (.aload_n 0, 1) := by decide +kernel
theorem zd_X_round_56 : decode zc_X_round 56 = .ok (.getfield 45, 3) := by decide +kernel
theorem zd_X_round_59 : decode zc_X_round 59 = .ok (.iload_n 1, 1) := by decide +kernel
theorem zd_X_round_60 : decode zc_X_round 60 = .ok (.aload_n 0, 1) := by decide +kernel
theorem zd_X_round_61 : decode zc_X_round 61 = .ok (.getfield 42, 3) := by decide +kernel
theorem zd_X_round_64 : decode zc_X_round 64 = .ok (.iload_n 1, 1) := by decide +kernel
theorem zd_X_round_65 : decode zc_X_round 65 = .ok (.iaload, 1) := by decide +kernel
theorem zd_X_round_66 : decode zc_X_round 66 = .ok (.iastore, 1) := by decide +kernel
theorem zd_X_round_67 : decode zc_X_round 67 = .ok (.iinc 1 1, 3) := by decide +kernel
theorem zd_X_round_70 : decode zc_X_round 70 = .ok (.goto (-23), 3) := by decide +kernel
theorem zd_X_round_73 : decode zc_X_round 73 = .ok (.iconst 0, 1) := by decide +kernel
theorem zd_X_round_74 : decode zc_X_round 74 = .ok (.istore_n 1, 1) := by decide +kernel
theorem zd_X_round_75 : decode zc_X_round 75 = .ok (.iload_n 1, 1) := by decide +kernel
theorem zd_X_round_76 : decode zc_X_round 76 = .ok (.aload_n 0, 1) := by decide +kernel
theorem zd_X_round_77 : decode zc_X_round 77 = .ok (.getfield 7, 3) := by decide +kernel
theorem zd_X_round_80 : decode zc_X_round 80 = .ok (.if_icmp .ge 170, 3) := by decide +kernel
theorem zd_X_round_83 : decode zc_X_round 83 = .ok (.aload_n 0, 1) := by decide +kernel
theorem zd_X_round_84 : decode zc_X_round 84 = .ok (.iload_n 1, 1) := by decide +kernel
theorem zd_X_round_85 : decode zc_X_round 85 = .ok (.invokevirtual 123, 3) := by decide +kernel
theorem zd_X_round_88 : decode zc_X_round 88 = .ok (.ifCond .ne 9, 3) := by decide +kernel
theorem zd_X_round_91 : decode zc_X_round 91 = .ok (.iinc 1 1, 3) := by decide +kernel
theorem zd_X_round_94 : decode zc_X_round 94 = .ok (.goto (-19), 3) := by decide +kernel
theorem zd_X_round_97 : decode zc_X_round 97 = .ok (.iconst 0, 1) := by decide +kernel
theorem zd_X_round_98 : decode zc_X_round 98 = .ok (.istore_n 2, 1) := by decide +kernel
theorem zd_X_round_99 : decode zc_X_round 99 = .ok (.iload_n 2, 1) := by decide +kernel
theorem zd_X_round_100 : decode zc_X_round 100 = .ok (.aload_n 0, 1) := by decide +kernel
theorem zd_X_round_101 : decode zc_X_round 101 = .ok (.getfield 89, 3) := by decide +kernel
theorem zd_X_round_104 : decode zc_X_round 104 = .ok (.if_icmp .ge 59, 3) := by decide +kernel
theorem zd_X_round_107 : decode zc_X_round 107 = .ok (.aload_n 0, 1) := by decide +kernel
theorem zd_X_round_108 : decode zc_X_round 108 = .ok (.getfield 48, 3) := by decide +kernel
theorem zd_X_round_111 : decode zc_X_round 111 = .ok (.iload_n 2, 1) := by decide +kernel
theorem zd_X_round_112 : decode zc_X_round 112 = .ok (.dup2, 1) := by decide +kernel
theorem zd_X_round_113 : decode zc_X_round 113 = .ok (.iaload, 1) := by decide +kernel
theorem zd_X_round_114 : decode zc_X_round 114 = .ok (.aload_n 0, 1) := by decide +kernel
theorem zd_X_round_115 : decode zc_X_round 115 = .ok (.getfield 17, 3) := by decide +kernel
theorem zd_X_round_118 : decode zc_X_round 118 = .ok (.iload_n 2, 1) := by decide +kernel
theorem zd_X_round_119 : decode zc_X_round 119 = .ok (.iaload, 1) := by decide +kernel
theorem zd_X_round_120 : decode zc_X_round 120 = .ok (.iload_n 1, 1) := by decide +kernel
theorem zd_X_round_121 : decode zc_X_round 121 = .ok (.if_icmp .ne 12, 3) := by decide +kernel
theorem zd_X_round_124 : decode zc_X_round 124 = .ok (.aload_n 0, 1) := by decide +kernel
theorem zd_X_round_125 : decode zc_X_round 125 = .ok (.getfield 23, 3) := by decide +kernel
theorem zd_X_round_128 : decode zc_X_round 128 = .ok (.iload_n 2, 1) := by decide +kernel
theorem zd_X_round_129 : decode zc_X_round 129 = .ok (.iaload, 1) := by decide +kernel
theorem zd_X_round_130 : decode zc_X_round 130 = .ok (.goto 4, 3) := by decide +kernel
theorem zd_X_round_133 : decode zc_X_round 133 = .ok (.iconst 0, 1) := by decide +kernel
theorem zd_X_round_134 : decode zc_X_round 134 = .ok (.aload_n 0, 1) := by decide +kernel
theorem zd_X_round_135 : decode zc_X_round 135 = .ok (.getfield 20, 3) := by decide +kernel
theorem zd_X_round_138 : decode zc_X_round 138 = .ok (.iload_n 2, 1) := by decide +kernel
theorem zd_X_round_139 : decode zc_X_round 139 = .ok (.iaload, 1) := by decide +kernel
theorem zd_X_round_140 : decode zc_X_round 140 = .ok (.iload_n 1, 1) := by decide +kernel
theorem zd_X_round_141 : decode zc_X_round 141 = .ok (.if_icmp .ne 12, 3) := by decide +kernel
theorem zd_X_round_144 : decode zc_X_round 144 = .ok (.aload_n 0, 1) := by decide +kernel
theorem zd_X_round_145 : decode zc_X_round 145 = .ok (.getfield 26, 3) := by decide +kernel
theorem zd_X_round_148 : decode zc_X_round 148 = .ok (.iload_n 2, 1) := by decide +kernel
theorem zd_X_round_149 : decode zc_X_round 149 = .ok (.iaload, 1) := by decide +kernel
theorem zd_X_round_150 : decode zc_X_round 150 = .ok (.goto 4, 3) := by decide +kernel
theorem zd_X_round_153 : decode zc_X_round 153 = .ok (.iconst 0, 1) := by decide +kernel
theorem zd_X_round_154 : decode zc_X_round 154 = .ok (.isub, 1) := by decide +kernel
theorem zd_X_round_155 : decode zc_X_round 155 = .ok (.iadd, 1) := by decide +kernel
theorem zd_X_round_156 : decode zc_X_round 156 = .ok (.iastore, 1) := by decide +kernel
theorem zd_X_round_157 : decode zc_X_round 157 = .ok (.iinc 2 1, 3) := by decide +kernel
theorem zd_X_round_160 : decode zc_X_round 160 = .ok (.goto (-61), 3) := by decide +kernel
theorem zd_X_round_163 : decode zc_X_round 163 = .ok (.iconst 0, 1) := by decide +kernel
theorem zd_X_round_164 : decode zc_X_round 164 = .ok (.istore_n 2, 1) := by decide +kernel
theorem zd_X_round_165 : decode zc_X_round 165 = .ok (.iload_n 2, 1) := by decide +kernel
theorem zd_X_round_166 : decode zc_X_round 166 = .ok (.aload_n 0, 1) := by decide +kernel
theorem zd_X_round_167 : decode zc_X_round 167 = .ok (.getfield 89, 3) := by decide +kernel
theorem zd_X_round_170 : decode zc_X_round 170 = .ok (.if_icmp .ge 45, 3) := by decide +kernel
theorem zd_X_round_173 : decode zc_X_round 173 = .ok (.aload_n 0, 1) := by decide +kernel
theorem zd_X_round_174 : decode zc_X_round 174 = .ok (.getfield 51, 3) := by decide +kernel
theorem zd_X_round_177 : decode zc_X_round 177 = .ok (.iload_n 2, 1) := by decide +kernel
theorem zd_X_round_178 : decode zc_X_round 178 = .ok (.aload_n 0, 1) := by decide +kernel
theorem zd_X_round_179 : decode zc_X_round 179 = .ok (.getfield 48, 3) := by decide +kernel
theorem zd_X_round_182 : decode zc_X_round 182 = .ok (.iload_n 2, 1) := by decide +kernel
theorem zd_X_round_183 : decode zc_X_round 183 = .ok (.iaload, 1) := by decide +kernel
theorem zd_X_round_184 : decode zc_X_round 184 = .ok (.aload_n 0, 1) := by decide +kernel
theorem zd_X_round_185 : decode zc_X_round 185 = .ok (.getfield 51, 3) := by decide +kernel
theorem zd_X_round_188 : decode zc_X_round 188 = .ok (.iload_n 2, 1) := by decide +kernel
theorem zd_X_round_189 : decode zc_X_round 189 = .ok (.iaload, 1) := by decide +kernel
theorem zd_X_round_190 : decode zc_X_round 190 = .ok (.if_icmp .le 12, 3) := by decide +kernel
theorem zd_X_round_193 : decode zc_X_round 193 = .ok (.aload_n 0, 1) := by decide +kernel
theorem zd_X_round_194 : decode zc_X_round 194 = .ok (.getfield 48, 3) := by decide +kernel
theorem zd_X_round_197 : decode zc_X_round 197 = .ok (.iload_n 2, 1) := by decide +kernel
theorem zd_X_round_198 : decode zc_X_round 198 = .ok (.iaload, 1) := by decide +kernel
theorem zd_X_round_199 : decode zc_X_round 199 = .ok (.goto 9, 3) := by decide +kernel
theorem zd_X_round_202 : decode zc_X_round 202 = .ok (.aload_n 0, 1) := by decide +kernel
theorem zd_X_round_203 : decode zc_X_round 203 = .ok (.getfield 51, 3) := by decide +kernel
theorem zd_X_round_206 : decode zc_X_round 206 = .ok (.iload_n 2, 1) := by decide +kernel
theorem zd_X_round_207 : decode zc_X_round 207 = .ok (.iaload, 1) := by decide +kernel
theorem zd_X_round_208 : decode zc_X_round 208 = .ok (.iastore, 1) := by decide +kernel
theorem zd_X_round_209 : decode zc_X_round 209 = .ok (.iinc 2 1, 3) := by decide +kernel
theorem zd_X_round_212 : decode zc_X_round 212 = .ok (.goto (-47), 3) := by decide +kernel
theorem zd_X_round_215 : decode zc_X_round 215 = .ok (.aload_n 0, 1) := by decide +kernel
theorem zd_X_round_216 : decode zc_X_round 216 = .ok (.getfield 45, 3) := by decide +kernel
theorem zd_X_round_219 : decode zc_X_round 219 = .ok (.iload_n 1, 1) := by decide +kernel
theorem zd_X_round_220 : decode zc_X_round 220 = .ok (.dup2, 1) := by decide +kernel
theorem zd_X_round_221 : decode zc_X_round 221 = .ok (.iaload, 1) := by decide +kernel
theorem zd_X_round_222 : decode zc_X_round 222 = .ok (.iconst 1, 1) := by decide +kernel
theorem zd_X_round_223 : decode zc_X_round 223 = .ok (.isub, 1) := by decide +kernel
theorem zd_X_round_224 : decode zc_X_round 224 = .ok (.iastore, 1) := by decide +kernel
theorem zd_X_round_225 : decode zc_X_round 225 = .ok (.aload_n 0, 1) := by decide +kernel
theorem zd_X_round_226 : decode zc_X_round 226 = .ok (.getfield 54, 3) := by decide +kernel
theorem zd_X_round_229 : decode zc_X_round 229 = .ok (.aload_n 0, 1) := by decide +kernel
theorem zd_X_round_230 : decode zc_X_round 230 = .ok (.getfield 120, 3) := by decide +kernel
theorem zd_X_round_233 : decode zc_X_round 233 = .ok (.iload_n 1, 1) := by decide +kernel
theorem zd_X_round_234 : decode zc_X_round 234 = .ok (.iastore, 1) := by decide +kernel
theorem zd_X_round_235 : decode zc_X_round 235 = .ok (.aload_n 0, 1) := by decide +kernel
theorem zd_X_round_236 : decode zc_X_round 236 = .ok (.dup, 1) := by decide +kernel
theorem zd_X_round_237 : decode zc_X_round 237 = .ok (.getfield 120, 3) := by decide +kernel
theorem zd_X_round_240 : decode zc_X_round 240 = .ok (.iconst 1, 1) := by decide +kernel
theorem zd_X_round_241 : decode zc_X_round 241 = .ok (.iadd, 1) := by decide +kernel
theorem zd_X_round_242 : decode zc_X_round 242 = .ok (.putfield 120, 3) := by decide +kernel
theorem zd_X_round_245 : decode zc_X_round 245 = .ok (.iconst 0, 1) := by decide +kernel
theorem zd_X_round_246 : decode zc_X_round 246 = .ok (.istore_n 1, 1) := by decide +kernel
theorem zd_X_round_247 : decode zc_X_round 247 = .ok (.goto (-172), 3) := by decide +kernel
theorem zd_X_round_250 : decode zc_X_round 250 = .ok (.return_, 1) := by decide +kernel
theorem zd_X_know_0 : decode zc_X_know 0 = .ok (.aload_n 0, 1) := by decide +kernel
theorem zd_X_know_1 : decode zc_X_know 1 = .ok (.getfield 92, 3) := by decide +kernel
theorem zd_X_know_4 : decode zc_X_know 4 = .ok (.ifCond .eq 4, 3) := by decide +kernel
theorem zd_X_know_7 : decode zc_X_know 7 = .ok (.return_, 1) := by decide +kernel
theorem zd_X_know_8 : decode zc_X_know 8 = .ok (.aload_n 0, 1) := by decide +kernel
theorem zd_X_know_9 : decode zc_X_know 9 = .ok (.iconst 1, 1) := by decide +kernel
theorem zd_X_know_10 : decode zc_X_know 10 = .ok (.putfield 92, 3) := by decide +kernel
theorem zd_X_know_13 : decode zc_X_know 13 = .ok (.aload_n 0, 1) := by decide +kernel
theorem zd_X_know_14 : decode zc_X_know 14 = .ok (.iconst (-1), 1) := by decide +kernel
theorem zd_X_know_15 : decode zc_X_know 15 = .ok (.putfield 126, 3) := by decide +kernel
theorem zd_X_know_18 : decode zc_X_know 18 = .ok (.iconst 1, 1) := by decide +kernel
theorem zd_X_know_19 : decode zc_X_know 19 = .ok (.istore_n 1, 1) := by decide +kernel
theorem zd_X_know_20 : decode zc_X_know 20 = .ok (.iload_n 1, 1) := by decide +kernel
theorem zd_X_know_21 : decode zc_X_know 21 = .ok (.aload_n 0, 1) := by decide +kernel
theorem zd_X_know_22 : decode zc_X_know 22 = .ok (.getfield 89, 3) := by decide +kernel
theorem zd_X_know_25 : decode zc_X_know 25 = .ok (.if_icmp .gt 32, 3) := by decide +kernel
theorem zd_X_know_28 : decode zc_X_know 28 = .ok (.aload_n 0, 1) := by decide +kernel
theorem zd_X_know_29 : decode zc_X_know 29 = .ok (.getfield 126, 3) := by decide +kernel
theorem zd_X_know_32 : decode zc_X_know 32 = .ok (.iconst (-1), 1) := by decide +kernel
theorem zd_X_know_33 : decode zc_X_know 33 = .ok (.if_icmp .ne 24, 3) := by decide +kernel
theorem zd_X_know_36 : decode zc_X_know 36 = .ok (.aload_n 0, 1) := by decide +kernel
theorem zd_X_know_37 : decode zc_X_know 37 = .ok (.iload_n 1, 1) := by decide +kernel
theorem zd_X_know_38 : decode zc_X_know 38 = .ok (.invokevirtual 129, 3) := by decide +kernel
theorem zd_X_know_41 : decode zc_X_know 41 = .ok (.ifCond .ne 10, 3) := by decide +kernel
theorem zd_X_know_44 : decode zc_X_know 44 = .ok (.aload_n 0, 1) := by decide +kernel
theorem zd_X_know_45 : decode zc_X_know 45 = .ok (.iload_n 1, 1) := by decide +kernel
theorem zd_X_know_46 : decode zc_X_know 46 = .ok (.iconst 1, 1) := by decide +kernel
theorem zd_X_know_47 : decode zc_X_know 47 = .ok (.isub, 1) := by decide +kernel
theorem zd_X_know_48 : decode zc_X_know 48 = .ok (.putfield 126, 3) := by decide +kernel
theorem zd_X_know_51 : decode zc_X_know 51 = .ok (.iinc 1 1, 3) := by decide +kernel
theorem zd_X_know_54 : decode zc_X_know 54 = .ok (.goto (-34), 3) := by decide +kernel
theorem zd_X_know_57 : decode zc_X_know 57 = .ok (.aload_n 0, 1) := by decide +kernel
theorem zd_X_know_58 : decode zc_X_know 58 = .ok (.aload_n 0, 1) := by decide +kernel
theorem zd_X_know_59 : decode zc_X_know 59 = .ok (.getfield 89, 3) := by decide +kernel
theorem zd_X_know_62 : decode zc_X_know 62 = .ok (.invokevirtual 129, 3) := by decide +kernel
theorem zd_X_know_65 : decode zc_X_know 65 = .ok (.pop, 1) := by decide +kernel
theorem zd_X_know_66 : decode zc_X_know 66 = .ok (.aload_n 0, 1) := by decide +kernel
theorem zd_X_know_67 : decode zc_X_know 67 = .ok (.iconst 0, 1) := by decide +kernel
theorem zd_X_know_68 : decode zc_X_know 68 = .ok (.putfield 111, 3) := by decide +kernel
theorem zd_X_know_71 : decode zc_X_know 71 = .ok (.iconst 0, 1) := by decide +kernel
theorem zd_X_know_72 : decode zc_X_know 72 = .ok (.istore_n 1, 1) := by decide +kernel
theorem zd_X_know_73 : decode zc_X_know 73 = .ok (.iload_n 1, 1) := by decide +kernel
theorem zd_X_know_74 : decode zc_X_know 74 = .ok (.aload_n 0, 1) := by decide +kernel
theorem zd_X_know_75 : decode zc_X_know 75 = .ok (.getfield 7, 3) := by decide +kernel
theorem zd_X_know_78 : decode zc_X_know 78 = .ok (.if_icmp .ge 33, 3) := by decide +kernel
theorem zd_X_know_81 : decode zc_X_know 81 = .ok (.aload_n 0, 1) := by decide +kernel
theorem zd_X_know_82 : decode zc_X_know 82 = .ok (.dup, 1) := by decide +kernel
theorem zd_X_know_83 : decode zc_X_know 83 = .ok (.getfield 111, 3) := by decide +kernel
theorem zd_X_know_86 : decode zc_X_know 86 = .ok (.aload_n 0, 1) := by decide +kernel
theorem zd_X_know_87 : decode zc_X_know 87 = .ok (.getfield 32, 3) := by decide +kernel
theorem zd_X_know_90 : decode zc_X_know 90 = .ok (.iload_n 1, 1) := by decide +kernel
theorem zd_X_know_91 : decode zc_X_know 91 = .ok (.iaload, 1) := by decide +kernel
theorem zd_X_know_92 : decode zc_X_know 92 = .ok (.iload_n 1, 1) := by decide +kernel
theorem zd_X_know_93 : decode zc_X_know 93 = .ok (.if_icmp .ne 7, 3) := by decide +kernel
theorem zd_X_know_96 : decode zc_X_know 96 = .ok (.iconst 1, 1) := by decide +kernel
theorem zd_X_know_97 : decode zc_X_know 97 = .ok (.goto 4, 3) := by decide +kernel
theorem zd_X_know_100 : decode zc_X_know 100 = .ok (.iconst 0, 1) := by decide +kernel
theorem zd_X_know_101 : decode zc_X_know 101 = .ok (.iadd, 1) := by decide +kernel
theorem zd_X_know_102 : decode zc_X_know 102 = .ok (.putfield 111, 3) := by decide +kernel
theorem zd_X_know_105 : decode zc_X_know 105 = .ok (.iinc 1 1, 3) := by decide +kernel
theorem zd_X_know_108 : decode zc_X_know 108 = .ok (.goto (-35), 3) := by decide +kernel
theorem zd_X_know_111 : decode zc_X_know 111 = .ok (.aload_n 0, 1) := by decide +kernel
theorem zd_X_know_112 : decode zc_X_know 112 = .ok (.iconst 0, 1) := by decide +kernel
theorem zd_X_know_113 : decode zc_X_know 113 = .ok (.putfield 108, 3) := by decide +kernel
theorem zd_X_know_116 : decode zc_X_know 116 = .ok (.aload_n 0, 1) := by decide +kernel
theorem zd_X_know_117 : decode zc_X_know 117 = .ok (.iconst 0, 1) := by decide +kernel
theorem zd_X_know_118 : decode zc_X_know 118 = .ok (.putfield 120, 3) := by decide +kernel
theorem zd_X_know_121 : decode zc_X_know 121 = .ok (.aload_n 0, 1) := by decide +kernel
theorem zd_X_know_122 : decode zc_X_know 122 = .ok (.getfield 126, 3) := by decide +kernel
theorem zd_X_know_125 : decode zc_X_know 125 = .ok (.iconst (-1), 1) := by decide +kernel
theorem zd_X_know_126 : decode zc_X_know 126 = .ok (.if_icmp .eq 4, 3) := by decide +kernel
theorem zd_X_know_129 : decode zc_X_know 129 = .ok (.return_, 1) := by decide +kernel
theorem zd_X_know_130 : decode zc_X_know 130 = .ok (.aload_n 0, 1) := by decide +kernel
theorem zd_X_know_131 : decode zc_X_know 131 = .ok (.invokevirtual 132, 3) := by decide +kernel
theorem zd_X_know_134 : decode zc_X_know 134 = .ok (.aload_n 0, 1) := by decide +kernel
theorem zd_X_know_135 : decode zc_X_know 135 = .ok (.getfield 108, 3) := by decide +kernel
theorem zd_X_know_138 : decode zc_X_know 138 = .ok (.ifCond .ne 7, 3) := by decide +kernel
theorem zd_X_know_141 : decode zc_X_know 141 = .ok (.aload_n 0, 1) := by decide +kernel
theorem zd_X_know_142 : decode zc_X_know 142 = .ok (.invokevirtual 135, 3) := by decide +kernel
theorem zd_X_know_145 : decode zc_X_know 145 = .ok (.return_, 1) := by decide +kernel
