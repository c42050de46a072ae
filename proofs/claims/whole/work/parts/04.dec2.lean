theorem dX6_init_0 : decode cX6_init 0 = .ok (.aload_n 0, 1) := by decide +kernel
theorem dX6_init_1 : decode cX6_init 1 = .ok (.invokespecial 3, 3) := by decide +kernel
theorem dX6_init_4 : decode cX6_init 4 = .ok (.aload_n 0, 1) := by decide +kernel
theorem dX6_init_5 : decode cX6_init 5 = .ok (.bipush 10, 2) := by decide +kernel
theorem dX6_init_7 : decode cX6_init 7 = .ok (.bipush 12, 2) := by decide +kernel
theorem dX6_init_9 : decode cX6_init 9 = .ok (.multianewarray 9 2, 4) := by decide +kernel
theorem dX6_init_13 : decode cX6_init 13 = .ok (.putfield 11, 3) := by decide +kernel
theorem dX6_init_16 : decode cX6_init 16 = .ok (.aload_n 0, 1) := by decide +kernel
theorem dX6_init_17 : decode cX6_init 17 = .ok (.bipush 10, 2) := by decide +kernel
theorem dX6_init_19 : decode cX6_init 19 = .ok (.newarray .int, 2) := by decide +kernel
theorem dX6_init_21 : decode cX6_init 21 = .ok (.putfield 16, 3) := by decide +kernel
theorem dX6_init_24 : decode cX6_init 24 = .ok (.aload_n 0, 1) := by decide +kernel
theorem dX6_init_25 : decode cX6_init 25 = .ok (.bipush 8, 2) := by decide +kernel
theorem dX6_init_27 : decode cX6_init 27 = .ok (.iconst 4, 1) := by decide +kernel
theorem dX6_init_28 : decode cX6_init 28 = .ok (.multianewarray 9 2, 4) := by decide +kernel
theorem dX6_init_32 : decode cX6_init 32 = .ok (.putfield 20, 3) := by decide +kernel
theorem dX6_init_35 : decode cX6_init 35 = .ok (.aload_n 0, 1) := by decide +kernel
theorem dX6_init_36 : decode cX6_init 36 = .ok (.bipush 8, 2) := by decide +kernel
theorem dX6_init_38 : decode cX6_init 38 = .ok (.iconst 3, 1) := by decide +kernel
theorem dX6_init_39 : decode cX6_init 39 = .ok (.multianewarray 9 2, 4) := by decide +kernel
theorem dX6_init_43 : decode cX6_init 43 = .ok (.putfield 23, 3) := by decide +kernel
theorem dX6_init_46 : decode cX6_init 46 = .ok (.aload_n 0, 1) := by decide +kernel
theorem dX6_init_47 : decode cX6_init 47 = .ok (.bipush 10, 2) := by decide +kernel
theorem dX6_init_49 : decode cX6_init 49 = .ok (.newarray .int, 2) := by decide +kernel
theorem dX6_init_51 : decode cX6_init 51 = .ok (.putfield 26, 3) := by decide +kernel
theorem dX6_init_54 : decode cX6_init 54 = .ok (.aload_n 0, 1) := by decide +kernel
theorem dX6_init_55 : decode cX6_init 55 = .ok (.sipush 200, 3) := by decide +kernel
theorem dX6_init_58 : decode cX6_init 58 = .ok (.putfield 29, 3) := by decide +kernel
theorem dX6_init_61 : decode cX6_init 61 = .ok (.aload_n 0, 1) := by decide +kernel
theorem dX6_init_62 : decode cX6_init 62 = .ok (.bipush 40, 2) := by decide +kernel
theorem dX6_init_64 : decode cX6_init 64 = .ok (.putfield 33, 3) := by decide +kernel
theorem dX6_init_67 : decode cX6_init 67 = .ok (.return_, 1) := by decide +kernel
theorem dX6_copy_0 : decode cX6_copy 0 = .ok (.new 12, 3) := by decide +kernel
theorem dX6_copy_3 : decode cX6_copy 3 = .ok (.dup, 1) := by decide +kernel
theorem dX6_copy_4 : decode cX6_copy 4 = .ok (.invokespecial 36, 3) := by decide +kernel
theorem dX6_copy_7 : decode cX6_copy 7 = .ok (.astore_n 1, 1) := by decide +kernel
theorem dX6_copy_8 : decode cX6_copy 8 = .ok (.iconst 0, 1) := by decide +kernel
theorem dX6_copy_9 : decode cX6_copy 9 = .ok (.istore_n 2, 1) := by decide +kernel
theorem dX6_copy_10 : decode cX6_copy 10 = .ok (.iload_n 2, 1) := by decide +kernel
theorem dX6_copy_11 : decode cX6_copy 11 = .ok (.aload_n 0, 1) := by decide +kernel
theorem dX6_copy_12 : decode cX6_copy 12 = .ok (.getfield 37, 3) := by decide +kernel
theorem dX6_copy_15 : decode cX6_copy 15 = .ok (.if_icmp .ge 28, 3) := by decide +kernel
theorem dX6_copy_18 : decode cX6_copy 18 = .ok (.aload_n 0, 1) := by decide +kernel
theorem dX6_copy_19 : decode cX6_copy 19 = .ok (.getfield 11, 3) := by decide +kernel
theorem dX6_copy_22 : decode cX6_copy 22 = .ok (.iload_n 2, 1) := by decide +kernel
theorem dX6_copy_23 : decode cX6_copy 23 = .ok (.aaload, 1) := by decide +kernel
theorem dX6_copy_24 : decode cX6_copy 24 = .ok (.iconst 0, 1) := by decide +kernel
theorem dX6_copy_25 : decode cX6_copy 25 = .ok (.aload_n 1, 1) := by decide +kernel
theorem dX6_copy_26 : decode cX6_copy 26 = .ok (.getfield 11, 3) := by decide +kernel
theorem dX6_copy_29 : decode cX6_copy 29 = .ok (.iload_n 2, 1) := by decide +kernel
theorem dX6_copy_30 : decode cX6_copy 30 = .ok (.aaload, 1) := by decide +kernel
theorem dX6_copy_31 : decode cX6_copy 31 = .ok (.iconst 0, 1) := by decide +kernel
theorem dX6_copy_32 : decode cX6_copy 32 = .ok (.bipush 12, 2) := by decide +kernel
theorem dX6_copy_34 : decode cX6_copy 34 = .ok (.invokestatic 40, 3) := by decide +kernel
theorem dX6_copy_37 : decode cX6_copy 37 = .ok (.iinc 2 1, 3) := by decide +kernel
theorem dX6_copy_40 : decode cX6_copy 40 = .ok (.goto (-30), 3) := by decide +kernel
theorem dX6_copy_43 : decode cX6_copy 43 = .ok (.aload_n 0, 1) := by decide +kernel
theorem dX6_copy_44 : decode cX6_copy 44 = .ok (.getfield 16, 3) := by decide +kernel
theorem dX6_copy_47 : decode cX6_copy 47 = .ok (.iconst 0, 1) := by decide +kernel
theorem dX6_copy_48 : decode cX6_copy 48 = .ok (.aload_n 1, 1) := by decide +kernel
theorem dX6_copy_49 : decode cX6_copy 49 = .ok (.getfield 16, 3) := by decide +kernel
theorem dX6_copy_52 : decode cX6_copy 52 = .ok (.iconst 0, 1) := by decide +kernel
theorem dX6_copy_53 : decode cX6_copy 53 = .ok (.bipush 10, 2) := by decide +kernel
theorem dX6_copy_55 : decode cX6_copy 55 = .ok (.invokestatic 40, 3) := by decide +kernel
theorem dX6_copy_58 : decode cX6_copy 58 = .ok (.iconst 0, 1) := by decide +kernel
theorem dX6_copy_59 : decode cX6_copy 59 = .ok (.istore_n 2, 1) := by decide +kernel
theorem dX6_copy_60 : decode cX6_copy 60 = .ok (.iload_n 2, 1) := by decide +kernel
theorem dX6_copy_61 : decode cX6_copy 61 = .ok (.aload_n 0, 1) := by decide +kernel
theorem dX6_copy_62 : decode cX6_copy 62 = .ok (.getfield 46, 3) := by decide +kernel
theorem dX6_copy_65 : decode cX6_copy 65 = .ok (.if_icmp .ge 27, 3) := by decide +kernel
theorem dX6_copy_68 : decode cX6_copy 68 = .ok (.aload_n 0, 1) := by decide +kernel
theorem dX6_copy_69 : decode cX6_copy 69 = .ok (.getfield 20, 3) := by decide +kernel
theorem dX6_copy_72 : decode cX6_copy 72 = .ok (.iload_n 2, 1) := by decide +kernel
theorem dX6_copy_73 : decode cX6_copy 73 = .ok (.aaload, 1) := by decide +kernel
theorem dX6_copy_74 : decode cX6_copy 74 = .ok (.iconst 0, 1) := by decide +kernel
theorem dX6_copy_75 : decode cX6_copy 75 = .ok (.aload_n 1, 1) := by decide +kernel
theorem dX6_copy_76 : decode cX6_copy 76 = .ok (.getfield 20, 3) := by decide +kernel
theorem dX6_copy_79 : decode cX6_copy 79 = .ok (.iload_n 2, 1) := by decide +kernel
theorem dX6_copy_80 : decode cX6_copy 80 = .ok (.aaload, 1) := by decide +kernel
theorem dX6_copy_81 : decode cX6_copy 81 = .ok (.iconst 0, 1) := by decide +kernel
theorem dX6_copy_82 : decode cX6_copy 82 = .ok (.iconst 4, 1) := by decide +kernel
theorem dX6_copy_83 : decode cX6_copy 83 = .ok (.invokestatic 40, 3) := by decide +kernel
theorem dX6_copy_86 : decode cX6_copy 86 = .ok (.iinc 2 1, 3) := by decide +kernel
theorem dX6_copy_89 : decode cX6_copy 89 = .ok (.goto (-29), 3) := by decide +kernel
theorem dX6_copy_92 : decode cX6_copy 92 = .ok (.iconst 0, 1) := by decide +kernel
theorem dX6_copy_93 : decode cX6_copy 93 = .ok (.istore_n 2, 1) := by decide +kernel
theorem dX6_copy_94 : decode cX6_copy 94 = .ok (.iload_n 2, 1) := by decide +kernel
theorem dX6_copy_95 : decode cX6_copy 95 = .ok (.aload_n 0, 1) := by decide +kernel
theorem dX6_copy_96 : decode cX6_copy 96 = .ok (.getfield 49, 3) := by decide +kernel
theorem dX6_copy_99 : decode cX6_copy 99 = .ok (.if_icmp .ge 27, 3) := by decide +kernel
theorem dX6_copy_102 : decode cX6_copy 102 = .ok (.aload_n 0, 1) := by decide +kernel
theorem dX6_copy_103 : decode cX6_copy 103 = .ok (.getfield 23, 3) := by decide +kernel
theorem dX6_copy_106 : decode cX6_copy 106 = .ok (.iload_n 2, 1) := by decide +kernel
theorem dX6_copy_107 : decode cX6_copy 107 = .ok (.aaload, 1) := by decide +kernel
theorem dX6_copy_108 : decode cX6_copy 108 = .ok (.iconst 0, 1) := by decide +kernel
theorem dX6_copy_109 : decode cX6_copy 109 = .ok (.aload_n 1, 1) := by decide +kernel
theorem dX6_copy_110 : decode cX6_copy 110 = .ok (.getfield 23, 3) := by decide +kernel
theorem dX6_copy_113 : decode cX6_copy 113 = .ok (.iload_n 2, 1) := by decide +kernel
theorem dX6_copy_114 : decode cX6_copy 114 = .ok (.aaload, 1) := by decide +kernel
theorem dX6_copy_115 : decode cX6_copy 115 = .ok (.iconst 0, 1) := by decide +kernel
theorem dX6_copy_116 : decode cX6_copy 116 = .ok (.iconst 3, 1) := by decide +kernel
theorem dX6_copy_117 : decode cX6_copy 117 = .ok (.invokestatic 40, 3) := by decide +kernel
theorem dX6_copy_120 : decode cX6_copy 120 = .ok (.iinc 2 1, 3) := by decide +kernel
theorem dX6_copy_123 : decode cX6_copy 123 = .ok (.goto (-29), 3) := by decide +kernel
theorem dX6_copy_126 : decode cX6_copy 126 = .ok (.aload_n 1, 1) := by decide +kernel
theorem dX6_copy_127 : decode cX6_copy 127 = .ok (.aload_n 0, 1) := by decide +kernel
theorem dX6_copy_128 : decode cX6_copy 128 = .ok (.getfield 37, 3) := by decide +kernel
theorem dX6_copy_131 : decode cX6_copy 131 = .ok (.putfield 37, 3) := by decide +kernel
theorem dX6_copy_134 : decode cX6_copy 134 = .ok (.aload_n 1, 1) := by decide +kernel
theorem dX6_copy_135 : decode cX6_copy 135 = .ok (.aload_n 0, 1) := by decide +kernel
theorem dX6_copy_136 : decode cX6_copy 136 = .ok (.getfield 52, 3) := by decide +kernel
theorem dX6_copy_139 : decode cX6_copy 139 = .ok (.putfield 52, 3) := by decide +kernel
theorem dX6_copy_142 : decode cX6_copy 142 = .ok (.aload_n 1, 1) := by decide +kernel
theorem dX6_copy_143 : decode cX6_copy 143 = .ok (.aload_n 0, 1) := by decide +kernel
theorem dX6_copy_144 : decode cX6_copy 144 = .ok (.getfield 46, 3) := by decide +kernel
theorem dX6_copy_147 : decode cX6_copy 147 = .ok (.putfield 46, 3) := by decide +kernel
theorem dX6_copy_150 : decode cX6_copy 150 = .ok (.aload_n 1, 1) := by decide +kernel
theorem dX6_copy_151 : decode cX6_copy 151 = .ok (.aload_n 0, 1) := by decide +kernel
theorem dX6_copy_152 : decode cX6_copy 152 = .ok (.getfield 49, 3) := by decide +kernel
theorem dX6_copy_155 : decode cX6_copy 155 = .ok (.putfield 49, 3) := by decide +kernel
theorem dX6_copy_158 : decode cX6_copy 158 = .ok (.aload_n 1, 1) := by decide +kernel
theorem dX6_copy_159 : decode cX6_copy 159 = .ok (.aload_n 0, 1) := by decide +kernel
theorem dX6_copy_160 : decode cX6_copy 160 = .ok (.getfield 55, 3) := by decide +kernel
theorem dX6_copy_163 : decode cX6_copy 163 = .ok (.putfield 55, 3) := by decide +kernel
theorem dX6_copy_166 : decode cX6_copy 166 = .ok (.aload_n 1, 1) := by decide +kernel
theorem dX6_copy_167 : decode cX6_copy 167 = .ok (.aload_n 0, 1) := by decide +kernel
theorem dX6_copy_168 : decode cX6_copy 168 = .ok (.getfield 29, 3) := by decide +kernel
theorem dX6_copy_171 : decode cX6_copy 171 = .ok (.putfield 29, 3) := by decide +kernel
theorem dX6_copy_174 : decode cX6_copy 174 = .ok (.aload_n 1, 1) := by decide +kernel
theorem dX6_copy_175 : decode cX6_copy 175 = .ok (.aload_n 0, 1) := by decide +kernel
theorem dX6_copy_176 : decode cX6_copy 176 = .ok (.getfield 33, 3) := by decide +kernel
theorem dX6_copy_179 : decode cX6_copy 179 = .ok (.putfield 33, 3) := by decide +kernel
theorem dX6_copy_182 : decode cX6_copy 182 = .ok (.aload_n 1, 1) := by decide +kernel
theorem dX6_copy_183 : decode cX6_copy 183 = .ok (.aload_n 0, 1) := by decide +kernel
theorem dX6_copy_184 : decode cX6_copy 184 = .ok (.getfield 58, 3) := by decide +kernel
theorem dX6_copy_187 : decode cX6_copy 187 = .ok (.putfield 58, 3) := by decide +kernel
theorem dX6_copy_190 : decode cX6_copy 190 = .ok (.aload_n 1, 1) := by decide +kernel
theorem dX6_copy_191 : decode cX6_copy 191 = .ok (.aload_n 0, 1) := by decide +kernel
theorem dX6_copy_192 : decode cX6_copy 192 = .ok (.getfield 61, 3) := by decide +kernel
theorem dX6_copy_195 : decode cX6_copy 195 = .ok (.putfield 61, 3) := by decide +kernel
theorem dX6_copy_198 : decode cX6_copy 198 = .ok (.aload_n 1, 1) := by decide +kernel
theorem dX6_copy_199 : decode cX6_copy 199 = .ok (.areturn, 1) := by decide +kernel
theorem dX6_flow_0 : decode cX6_flow 0 = .ok (.iconst 0, 1) := by decide +kernel
theorem dX6_flow_1 : decode cX6_flow 1 = .ok (.aload_n 0, 1) := by decide +kernel
theorem dX6_flow_2 : decode cX6_flow 2 = .ok (.getfield 29, 3) := by decide +kernel
theorem dX6_flow_5 : decode cX6_flow 5 = .ok (.aload_n 0, 1) := by decide +kernel
theorem dX6_flow_6 : decode cX6_flow 6 = .ok (.getfield 33, 3) := by decide +kernel
theorem dX6_flow_9 : decode cX6_flow 9 = .ok (.iadd, 1) := by decide +kernel
theorem dX6_flow_10 : decode cX6_flow 10 = .ok (.bipush 120, 2) := by decide +kernel
theorem dX6_flow_12 : decode cX6_flow 12 = .ok (.isub, 1) := by decide +kernel
theorem dX6_flow_13 : decode cX6_flow 13 = .ok (.iconst 2, 1) := by decide +kernel
theorem dX6_flow_14 : decode cX6_flow 14 = .ok (.aload_n 0, 1) := by decide +kernel
theorem dX6_flow_15 : decode cX6_flow 15 = .ok (.getfield 58, 3) := by decide +kernel
theorem dX6_flow_18 : decode cX6_flow 18 = .ok (.imul, 1) := by decide +kernel
theorem dX6_flow_19 : decode cX6_flow 19 = .ok (.isub, 1) := by decide +kernel
theorem dX6_flow_20 : decode cX6_flow 20 = .ok (.bipush 10, 2) := by decide +kernel
theorem dX6_flow_22 : decode cX6_flow 22 = .ok (.idiv, 1) := by decide +kernel
theorem dX6_flow_23 : decode cX6_flow 23 = .ok (.invokestatic 64, 3) := by decide +kernel
theorem dX6_flow_26 : decode cX6_flow 26 = .ok (.ireturn, 1) := by decide +kernel
theorem dX6_lent_0 : decode cX6_lent 0 = .ok (.iconst 0, 1) := by decide +kernel
theorem dX6_lent_1 : decode cX6_lent 1 = .ok (.istore_n 2, 1) := by decide +kernel
theorem dX6_lent_2 : decode cX6_lent 2 = .ok (.iconst 0, 1) := by decide +kernel
theorem dX6_lent_3 : decode cX6_lent 3 = .ok (.istore_n 3, 1) := by decide +kernel
theorem dX6_lent_4 : decode cX6_lent 4 = .ok (.iload_n 3, 1) := by decide +kernel
theorem dX6_lent_5 : decode cX6_lent 5 = .ok (.aload_n 0, 1) := by decide +kernel
theorem dX6_lent_6 : decode cX6_lent 6 = .ok (.getfield 46, 3) := by decide +kernel
theorem dX6_lent_9 : decode cX6_lent 9 = .ok (.if_icmp .ge 36, 3) := by decide +kernel
theorem dX6_lent_12 : decode cX6_lent 12 = .ok (.iload_n 2, 1) := by decide +kernel
theorem dX6_lent_13 : decode cX6_lent 13 = .ok (.aload_n 0, 1) := by decide +kernel
theorem dX6_lent_14 : decode cX6_lent 14 = .ok (.getfield 20, 3) := by decide +kernel
theorem dX6_lent_17 : decode cX6_lent 17 = .ok (.iload_n 3, 1) := by decide +kernel
theorem dX6_lent_18 : decode cX6_lent 18 = .ok (.aaload, 1) := by decide +kernel
theorem dX6_lent_19 : decode cX6_lent 19 = .ok (.iconst 0, 1) := by decide +kernel
theorem dX6_lent_20 : decode cX6_lent 20 = .ok (.iaload, 1) := by decide +kernel
theorem dX6_lent_21 : decode cX6_lent 21 = .ok (.iload_n 1, 1) := by decide +kernel
theorem dX6_lent_22 : decode cX6_lent 22 = .ok (.if_icmp .ne 14, 3) := by decide +kernel
theorem dX6_lent_25 : decode cX6_lent 25 = .ok (.aload_n 0, 1) := by decide +kernel
theorem dX6_lent_26 : decode cX6_lent 26 = .ok (.getfield 20, 3) := by decide +kernel
theorem dX6_lent_29 : decode cX6_lent 29 = .ok (.iload_n 3, 1) := by decide +kernel
theorem dX6_lent_30 : decode cX6_lent 30 = .ok (.aaload, 1) := by decide +kernel
theorem dX6_lent_31 : decode cX6_lent 31 = .ok (.iconst 2, 1) := by decide +kernel
theorem dX6_lent_32 : decode cX6_lent 32 = .ok (.iaload, 1) := by decide +kernel
theorem dX6_lent_33 : decode cX6_lent 33 = .ok (.goto 4, 3) := by decide +kernel
theorem dX6_lent_36 : decode cX6_lent 36 = .ok (.iconst 0, 1) := by decide +kernel
theorem dX6_lent_37 : decode cX6_lent 37 = .ok (.iadd, 1) := by decide +kernel
theorem dX6_lent_38 : decode cX6_lent 38 = .ok (.istore_n 2, 1) := by decide +kernel
theorem dX6_lent_39 : decode cX6_lent 39 = .ok (.iinc 3 1, 3) := by decide +kernel
theorem dX6_lent_42 : decode cX6_lent 42 = .ok (.goto (-38), 3) := by decide +kernel
theorem dX6_lent_45 : decode cX6_lent 45 = .ok (.iload_n 2, 1) := by decide +kernel
theorem dX6_lent_46 : decode cX6_lent 46 = .ok (.ireturn, 1) := by decide +kernel
theorem dX6_used_0 : decode cX6_used 0 = .ok (.aload_n 0, 1) := by decide +kernel
theorem dX6_used_1 : decode cX6_used 1 = .ok (.getfield 11, 3) := by decide +kernel
theorem dX6_used_4 : decode cX6_used 4 = .ok (.iload_n 1, 1) := by decide +kernel
theorem dX6_used_5 : decode cX6_used 5 = .ok (.aaload, 1) := by decide +kernel
theorem dX6_used_6 : decode cX6_used 6 = .ok (.iconst 0, 1) := by decide +kernel
theorem dX6_used_7 : decode cX6_used 7 = .ok (.iaload, 1) := by decide +kernel
theorem dX6_used_8 : decode cX6_used 8 = .ok (.aload_n 0, 1) := by decide +kernel
theorem dX6_used_9 : decode cX6_used 9 = .ok (.iload_n 1, 1) := by decide +kernel
theorem dX6_used_10 : decode cX6_used 10 = .ok (.invokevirtual 70, 3) := by decide +kernel
theorem dX6_used_13 : decode cX6_used 13 = .ok (.isub, 1) := by decide +kernel
theorem dX6_used_14 : decode cX6_used 14 = .ok (.istore_n 2, 1) := by decide +kernel
theorem dX6_used_15 : decode cX6_used 15 = .ok (.iconst 0, 1) := by decide +kernel
theorem dX6_used_16 : decode cX6_used 16 = .ok (.istore_n 3, 1) := by decide +kernel
theorem dX6_used_17 : decode cX6_used 17 = .ok (.iload_n 3, 1) := by decide +kernel
theorem dX6_used_18 : decode cX6_used 18 = .ok (.aload_n 0, 1) := by decide +kernel
theorem dX6_used_19 : decode cX6_used 19 = .ok (.getfield 46, 3) := by decide +kernel
theorem dX6_used_22 : decode cX6_used 22 = .ok (.if_icmp .ge 36, 3) := by decide +kernel
theorem dX6_used_25 : decode cX6_used 25 = .ok (.iload_n 2, 1) := by decide +kernel
theorem dX6_used_26 : decode cX6_used 26 = .ok (.aload_n 0, 1) := by decide +kernel
theorem dX6_used_27 : decode cX6_used 27 = .ok (.getfield 20, 3) := by decide +kernel
theorem dX6_used_30 : decode cX6_used 30 = .ok (.iload_n 3, 1) := by decide +kernel
theorem dX6_used_31 : decode cX6_used 31 = .ok (.aaload, 1) := by decide +kernel
theorem dX6_used_32 : decode cX6_used 32 = .ok (.iconst 1, 1) := by decide +kernel
theorem dX6_used_33 : decode cX6_used 33 = .ok (.iaload, 1) := by decide +kernel
theorem dX6_used_34 : decode cX6_used 34 = .ok (.iload_n 1, 1) := by decide +kernel
theorem dX6_used_35 : decode cX6_used 35 = .ok (.if_icmp .ne 14, 3) := by decide +kernel
theorem dX6_used_38 : decode cX6_used 38 = .ok (.aload_n 0, 1) := by decide +kernel
theorem dX6_used_39 : decode cX6_used 39 = .ok (.getfield 20, 3) := by decide +kernel
theorem dX6_used_42 : decode cX6_used 42 = .ok (.iload_n 3, 1) := by decide +kernel
theorem dX6_used_43 : decode cX6_used 43 = .ok (.aaload, 1) := by decide +kernel
theorem dX6_used_44 : decode cX6_used 44 = .ok (.iconst 2, 1) := by decide +kernel
theorem dX6_used_45 : decode cX6_used 45 = .ok (.iaload, 1) := by decide +kernel
theorem dX6_used_46 : decode cX6_used 46 = .ok (.goto 4, 3) := by decide +kernel
theorem dX6_used_49 : decode cX6_used 49 = .ok (.iconst 0, 1) := by decide +kernel
theorem dX6_used_50 : decode cX6_used 50 = .ok (.iadd, 1) := by decide +kernel
theorem dX6_used_51 : decode cX6_used 51 = .ok (.istore_n 2, 1) := by decide +kernel
theorem dX6_used_52 : decode cX6_used 52 = .ok (.iinc 3 1, 3) := by decide +kernel
theorem dX6_used_55 : decode cX6_used 55 = .ok (.goto (-38), 3) := by decide +kernel
theorem dX6_used_58 : decode cX6_used 58 = .ok (.iload_n 2, 1) := by decide +kernel
theorem dX6_used_59 : decode cX6_used 59 = .ok (.ireturn, 1) := by decide +kernel
theorem dX6_all_0 : decode cX6_all 0 = .ok (.iconst 0, 1) := by decide +kernel
theorem dX6_all_1 : decode cX6_all 1 = .ok (.istore_n 1, 1) := by decide +kernel
theorem dX6_all_2 : decode cX6_all 2 = .ok (.iconst 0, 1) := by decide +kernel
theorem dX6_all_3 : decode cX6_all 3 = .ok (.istore_n 2, 1) := by decide +kernel
theorem dX6_all_4 : decode cX6_all 4 = .ok (.iload_n 2, 1) := by decide +kernel
theorem dX6_all_5 : decode cX6_all 5 = .ok (.aload_n 0, 1) := by decide +kernel
theorem dX6_all_6 : decode cX6_all 6 = .ok (.getfield 52, 3) := by decide +kernel
theorem dX6_all_9 : decode cX6_all 9 = .ok (.if_icmp .ge 25, 3) := by decide +kernel
theorem dX6_all_12 : decode cX6_all 12 = .ok (.iload_n 1, 1) := by decide +kernel
theorem dX6_all_13 : decode cX6_all 13 = .ok (.aload_n 0, 1) := by decide +kernel
theorem dX6_all_14 : decode cX6_all 14 = .ok (.getfield 11, 3) := by decide +kernel
theorem dX6_all_17 : decode cX6_all 17 = .ok (.aload_n 0, 1) := by decide +kernel
theorem dX6_all_18 : decode cX6_all 18 = .ok (.getfield 16, 3) := by decide +kernel
theorem dX6_all_21 : decode cX6_all 21 = .ok (.iload_n 2, 1) := by decide +kernel
theorem dX6_all_22 : decode cX6_all 22 = .ok (.iaload, 1) := by decide +kernel
theorem dX6_all_23 : decode cX6_all 23 = .ok (.aaload, 1) := by decide +kernel
theorem dX6_all_24 : decode cX6_all 24 = .ok (.iconst 0, 1) := by decide +kernel
theorem dX6_all_25 : decode cX6_all 25 = .ok (.iaload, 1) := by decide +kernel
theorem dX6_all_26 : decode cX6_all 26 = .ok (.iadd, 1) := by decide +kernel
theorem dX6_all_27 : decode cX6_all 27 = .ok (.istore_n 1, 1) := by decide +kernel
theorem dX6_all_28 : decode cX6_all 28 = .ok (.iinc 2 1, 3) := by decide +kernel
theorem dX6_all_31 : decode cX6_all 31 = .ok (.goto (-27), 3) := by decide +kernel
theorem dX6_all_34 : decode cX6_all 34 = .ok (.iload_n 1, 1) := by decide +kernel
theorem dX6_all_35 : decode cX6_all 35 = .ok (.ireturn, 1) := by decide +kernel
theorem dX6_place_0 : decode cX6_place 0 = .ok (.iconst 0, 1) := by decide +kernel
theorem dX6_place_1 : decode cX6_place 1 = .ok (.istore_n 2, 1) := by decide +kernel
theorem dX6_place_2 : decode cX6_place 2 = .ok (.iload_n 2, 1) := by decide +kernel
theorem dX6_place_3 : decode cX6_place 3 = .ok (.aload_n 0, 1) := by decide +kernel
theorem dX6_place_4 : decode cX6_place 4 = .ok (.getfield 52, 3) := by decide +kernel
theorem dX6_place_7 : decode cX6_place 7 = .ok (.if_icmp .ge 21, 3) := by decide +kernel
theorem dX6_place_10 : decode cX6_place 10 = .ok (.aload_n 0, 1) := by decide +kernel
theorem dX6_place_11 : decode cX6_place 11 = .ok (.getfield 16, 3) := by decide +kernel
theorem dX6_place_14 : decode cX6_place 14 = .ok (.iload_n 2, 1) := by decide +kernel
theorem dX6_place_15 : decode cX6_place 15 = .ok (.iaload, 1) := by decide +kernel
theorem dX6_place_16 : decode cX6_place 16 = .ok (.iload_n 1, 1) := by decide +kernel
theorem dX6_place_17 : decode cX6_place 17 = .ok (.if_icmp .ne 5, 3) := by decide +kernel
theorem dX6_place_20 : decode cX6_place 20 = .ok (.iload_n 2, 1) := by decide +kernel
theorem dX6_place_21 : decode cX6_place 21 = .ok (.ireturn, 1) := by decide +kernel
theorem dX6_place_22 : decode cX6_place 22 = .ok (.iinc 2 1, 3) := by decide +kernel
theorem dX6_place_25 : decode cX6_place 25 = .ok (.goto (-23), 3) := by decide +kernel
theorem dX6_place_28 : decode cX6_place 28 = .ok (.iconst (-1), 1) := by decide +kernel
theorem dX6_place_29 : decode cX6_place 29 = .ok (.ireturn, 1) := by decide +kernel
theorem dX6_first_0 : decode cX6_first 0 = .ok (.iconst 0, 1) := by decide +kernel
theorem dX6_first_1 : decode cX6_first 1 = .ok (.istore_n 2, 1) := by decide +kernel
theorem dX6_first_2 : decode cX6_first 2 = .ok (.iconst 0, 1) := by decide +kernel
theorem dX6_first_3 : decode cX6_first 3 = .ok (.istore_n 3, 1) := by decide +kernel
theorem dX6_first_4 : decode cX6_first 4 = .ok (.aload_n 0, 1) := by decide +kernel
theorem dX6_first_5 : decode cX6_first 5 = .ok (.getfield 16, 3) := by decide +kernel
theorem dX6_first_8 : decode cX6_first 8 = .ok (.iload_n 3, 1) := by decide +kernel
theorem dX6_first_9 : decode cX6_first 9 = .ok (.iaload, 1) := by decide +kernel
theorem dX6_first_10 : decode cX6_first 10 = .ok (.iload_n 1, 1) := by decide +kernel
theorem dX6_first_11 : decode cX6_first 11 = .ok (.if_icmp .eq 25, 3) := by decide +kernel
theorem dX6_first_14 : decode cX6_first 14 = .ok (.iload_n 2, 1) := by decide +kernel
theorem dX6_first_15 : decode cX6_first 15 = .ok (.aload_n 0, 1) := by decide +kernel
theorem dX6_first_16 : decode cX6_first 16 = .ok (.getfield 11, 3) := by decide +kernel
theorem dX6_first_19 : decode cX6_first 19 = .ok (.aload_n 0, 1) := by decide +kernel
theorem dX6_first_20 : decode cX6_first 20 = .ok (.getfield 16, 3) := by decide +kernel
theorem dX6_first_23 : decode cX6_first 23 = .ok (.iload_n 3, 1) := by decide +kernel
theorem dX6_first_24 : decode cX6_first 24 = .ok (.iaload, 1) := by decide +kernel
theorem dX6_first_25 : decode cX6_first 25 = .ok (.aaload, 1) := by decide +kernel
theorem dX6_first_26 : decode cX6_first 26 = .ok (.iconst 0, 1) := by decide +kernel
theorem dX6_first_27 : decode cX6_first 27 = .ok (.iaload, 1) := by decide +kernel
theorem dX6_first_28 : decode cX6_first 28 = .ok (.iadd, 1) := by decide +kernel
theorem dX6_first_29 : decode cX6_first 29 = .ok (.istore_n 2, 1) := by decide +kernel
theorem dX6_first_30 : decode cX6_first 30 = .ok (.iinc 3 1, 3) := by decide +kernel
theorem dX6_first_33 : decode cX6_first 33 = .ok (.goto (-29), 3) := by decide +kernel
theorem dX6_first_36 : decode cX6_first 36 = .ok (.iload_n 2, 1) := by decide +kernel
theorem dX6_first_37 : decode cX6_first 37 = .ok (.ireturn, 1) := by decide +kernel
theorem dX6_ownerOf_0 : decode cX6_ownerOf 0 = .ok (.iconst 0, 1) := by decide +kernel
theorem dX6_ownerOf_1 : decode cX6_ownerOf 1 = .ok (.istore_n 2, 1) := by decide +kernel
theorem dX6_ownerOf_2 : decode cX6_ownerOf 2 = .ok (.iconst 0, 1) := by decide +kernel
theorem dX6_ownerOf_3 : decode cX6_ownerOf 3 = .ok (.istore_n 3, 1) := by decide +kernel
theorem dX6_ownerOf_4 : decode cX6_ownerOf 4 = .ok (.iload_n 3, 1) := by decide +kernel
theorem dX6_ownerOf_5 : decode cX6_ownerOf 5 = .ok (.aload_n 0, 1) := by decide +kernel
theorem dX6_ownerOf_6 : decode cX6_ownerOf 6 = .ok (.getfield 52, 3) := by decide +kernel
theorem dX6_ownerOf_9 : decode cX6_ownerOf 9 = .ok (.if_icmp .ge 37, 3) := by decide +kernel
theorem dX6_ownerOf_12 : decode cX6_ownerOf 12 = .ok (.iload_n 2, 1) := by decide +kernel
theorem dX6_ownerOf_13 : decode cX6_ownerOf 13 = .ok (.aload_n 0, 1) := by decide +kernel
theorem dX6_ownerOf_14 : decode cX6_ownerOf 14 = .ok (.getfield 11, 3) := by decide +kernel
theorem dX6_ownerOf_17 : decode cX6_ownerOf 17 = .ok (.aload_n 0, 1) := by decide +kernel
theorem dX6_ownerOf_18 : decode cX6_ownerOf 18 = .ok (.getfield 16, 3) := by decide +kernel
theorem dX6_ownerOf_21 : decode cX6_ownerOf 21 = .ok (.iload_n 3, 1) := by decide +kernel
theorem dX6_ownerOf_22 : decode cX6_ownerOf 22 = .ok (.iaload, 1) := by decide +kernel
theorem dX6_ownerOf_23 : decode cX6_ownerOf 23 = .ok (.aaload, 1) := by decide +kernel
theorem dX6_ownerOf_24 : decode cX6_ownerOf 24 = .ok (.iconst 0, 1) := by decide +kernel
theorem dX6_ownerOf_25 : decode cX6_ownerOf 25 = .ok (.iaload, 1) := by decide +kernel
theorem dX6_ownerOf_26 : decode cX6_ownerOf 26 = .ok (.iadd, 1) := by decide +kernel
theorem dX6_ownerOf_27 : decode cX6_ownerOf 27 = .ok (.istore_n 2, 1) := by decide +kernel
theorem dX6_ownerOf_28 : decode cX6_ownerOf 28 = .ok (.iload_n 1, 1) := by decide +kernel
theorem dX6_ownerOf_29 : decode cX6_ownerOf 29 = .ok (.iload_n 2, 1) := by decide +kernel
theorem dX6_ownerOf_30 : decode cX6_ownerOf 30 = .ok (.if_icmp .ge 10, 3) := by decide +kernel
theorem dX6_ownerOf_33 : decode cX6_ownerOf 33 = .ok (.aload_n 0, 1) := by decide +kernel
theorem dX6_ownerOf_34 : decode cX6_ownerOf 34 = .ok (.getfield 16, 3) := by decide +kernel
theorem dX6_ownerOf_37 : decode cX6_ownerOf 37 = .ok (.iload_n 3, 1) := by decide +kernel
theorem dX6_ownerOf_38 : decode cX6_ownerOf 38 = .ok (.iaload, 1) := by decide +kernel
theorem dX6_ownerOf_39 : decode cX6_ownerOf 39 = .ok (.ireturn, 1) := by decide +kernel
theorem dX6_ownerOf_40 : decode cX6_ownerOf 40 = .ok (.iinc 3 1, 3) := by decide +kernel
theorem dX6_ownerOf_43 : decode cX6_ownerOf 43 = .ok (.goto (-39), 3) := by decide +kernel
theorem dX6_ownerOf_46 : decode cX6_ownerOf 46 = .ok (.iconst (-1), 1) := by decide +kernel
theorem dX6_ownerOf_47 : decode cX6_ownerOf 47 = .ok (.ireturn, 1) := by decide +kernel
theorem dX6_userOf_0 : decode cX6_userOf 0 = .ok (.aload_n 0, 1) := by decide +kernel
theorem dX6_userOf_1 : decode cX6_userOf 1 = .ok (.iload_n 1, 1) := by decide +kernel
theorem dX6_userOf_2 : decode cX6_userOf 2 = .ok (.invokevirtual 74, 3) := by decide +kernel
theorem dX6_userOf_5 : decode cX6_userOf 5 = .ok (.istore_n 2, 1) := by decide +kernel
theorem dX6_userOf_6 : decode cX6_userOf 6 = .ok (.iload_n 2, 1) := by decide +kernel
theorem dX6_userOf_7 : decode cX6_userOf 7 = .ok (.iconst (-1), 1) := by decide +kernel
theorem dX6_userOf_8 : decode cX6_userOf 8 = .ok (.if_icmp .ne 5, 3) := by decide +kernel
theorem dX6_userOf_11 : decode cX6_userOf 11 = .ok (.iconst (-1), 1) := by decide +kernel
theorem dX6_userOf_12 : decode cX6_userOf 12 = .ok (.ireturn, 1) := by decide +kernel
theorem dX6_userOf_13 : decode cX6_userOf 13 = .ok (.aload_n 0, 1) := by decide +kernel
theorem dX6_userOf_14 : decode cX6_userOf 14 = .ok (.iload_n 2, 1) := by decide +kernel
theorem dX6_userOf_15 : decode cX6_userOf 15 = .ok (.invokevirtual 77, 3) := by decide +kernel
theorem dX6_userOf_18 : decode cX6_userOf 18 = .ok (.aload_n 0, 1) := by decide +kernel
theorem dX6_userOf_19 : decode cX6_userOf 19 = .ok (.getfield 11, 3) := by decide +kernel
theorem dX6_userOf_22 : decode cX6_userOf 22 = .ok (.iload_n 2, 1) := by decide +kernel
theorem dX6_userOf_23 : decode cX6_userOf 23 = .ok (.aaload, 1) := by decide +kernel
theorem dX6_userOf_24 : decode cX6_userOf 24 = .ok (.iconst 0, 1) := by decide +kernel
theorem dX6_userOf_25 : decode cX6_userOf 25 = .ok (.iaload, 1) := by decide +kernel
theorem dX6_userOf_26 : decode cX6_userOf 26 = .ok (.iadd, 1) := by decide +kernel
theorem dX6_userOf_27 : decode cX6_userOf 27 = .ok (.istore_n 3, 1) := by decide +kernel
theorem dX6_userOf_28 : decode cX6_userOf 28 = .ok (.iconst 0, 1) := by decide +kernel
theorem dX6_userOf_29 : decode cX6_userOf 29 = .ok (.istore 4, 2) := by decide +kernel
theorem dX6_userOf_31 : decode cX6_userOf 31 = .ok (.iload 4, 2) := by decide +kernel
theorem dX6_userOf_33 : decode cX6_userOf 33 = .ok (.aload_n 0, 1) := by decide +kernel
theorem dX6_userOf_34 : decode cX6_userOf 34 = .ok (.getfield 46, 3) := by decide +kernel
theorem dX6_userOf_37 : decode cX6_userOf 37 = .ok (.if_icmp .ge 52, 3) := by decide +kernel
theorem dX6_userOf_40 : decode cX6_userOf 40 = .ok (.aload_n 0, 1) := by decide +kernel
theorem dX6_userOf_41 : decode cX6_userOf 41 = .ok (.getfield 20, 3) := by decide +kernel
theorem dX6_userOf_44 : decode cX6_userOf 44 = .ok (.iload 4, 2) := by decide +kernel
theorem dX6_userOf_46 : decode cX6_userOf 46 = .ok (.aaload, 1) := by decide +kernel
theorem dX6_userOf_47 : decode cX6_userOf 47 = .ok (.iconst 0, 1) := by decide +kernel
theorem dX6_userOf_48 : decode cX6_userOf 48 = .ok (.iaload, 1) := by decide +kernel
theorem dX6_userOf_49 : decode cX6_userOf 49 = .ok (.iload_n 2, 1) := by decide +kernel
theorem dX6_userOf_50 : decode cX6_userOf 50 = .ok (.if_icmp .eq 6, 3) := by decide +kernel
theorem dX6_userOf_53 : decode cX6_userOf 53 = .ok (.goto 30, 3) := by decide +kernel
theorem dX6_userOf_56 : decode cX6_userOf 56 = .ok (.iload_n 3, 1) := by decide +kernel
theorem dX6_userOf_57 : decode cX6_userOf 57 = .ok (.aload_n 0, 1) := by decide +kernel
theorem dX6_userOf_58 : decode cX6_userOf 58 = .ok (.getfield 20, 3) := by decide +kernel
theorem dX6_userOf_61 : decode cX6_userOf 61 = .ok (.iload 4, 2) := by decide +kernel
theorem dX6_userOf_63 : decode cX6_userOf 63 = .ok (.aaload, 1) := by decide +kernel
theorem dX6_userOf_64 : decode cX6_userOf 64 = .ok (.iconst 2, 1) := by decide +kernel
theorem dX6_userOf_65 : decode cX6_userOf 65 = .ok (.iaload, 1) := by decide +kernel
theorem dX6_userOf_66 : decode cX6_userOf 66 = .ok (.isub, 1) := by decide +kernel
theorem dX6_userOf_67 : decode cX6_userOf 67 = .ok (.istore_n 3, 1) := by decide +kernel
theorem dX6_userOf_68 : decode cX6_userOf 68 = .ok (.iload_n 1, 1) := by decide +kernel
theorem dX6_userOf_69 : decode cX6_userOf 69 = .ok (.iload_n 3, 1) := by decide +kernel
theorem dX6_userOf_70 : decode cX6_userOf 70 = .ok (.if_icmp .lt 13, 3) := by decide +kernel
theorem dX6_userOf_73 : decode cX6_userOf 73 = .ok (.aload_n 0, 1) := by decide +kernel
theorem dX6_userOf_74 : decode cX6_userOf 74 = .ok (.getfield 20, 3) := by decide +kernel
theorem dX6_userOf_77 : decode cX6_userOf 77 = .ok (.iload 4, 2) := by decide +kernel
theorem dX6_userOf_79 : decode cX6_userOf 79 = .ok (.aaload, 1) := by decide +kernel
theorem dX6_userOf_80 : decode cX6_userOf 80 = .ok (.iconst 1, 1) := by decide +kernel
theorem dX6_userOf_81 : decode cX6_userOf 81 = .ok (.iaload, 1) := by decide +kernel
theorem dX6_userOf_82 : decode cX6_userOf 82 = .ok (.ireturn, 1) := by decide +kernel
theorem dX6_userOf_83 : decode cX6_userOf 83 = .ok (.iinc 4 1, 3) := by decide +kernel
theorem dX6_userOf_86 : decode cX6_userOf 86 = .ok (.goto (-55), 3) := by decide +kernel
theorem dX6_userOf_89 : decode cX6_userOf 89 = .ok (.iload_n 2, 1) := by decide +kernel
theorem dX6_userOf_90 : decode cX6_userOf 90 = .ok (.ireturn, 1) := by decide +kernel
theorem dX6_today_0 : decode cX6_today 0 = .ok (.aload_n 0, 1) := by decide +kernel
theorem dX6_today_1 : decode cX6_today 1 = .ok (.getfield 55, 3) := by decide +kernel
theorem dX6_today_4 : decode cX6_today 4 = .ok (.bipush 7, 2) := by decide +kernel
theorem dX6_today_6 : decode cX6_today 6 = .ok (.irem, 1) := by decide +kernel
theorem dX6_today_7 : decode cX6_today 7 = .ok (.sipush 720, 3) := by decide +kernel
theorem dX6_today_10 : decode cX6_today 10 = .ok (.imul, 1) := by decide +kernel
theorem dX6_today_11 : decode cX6_today 11 = .ok (.istore_n 3, 1) := by decide +kernel
theorem dX6_today_12 : decode cX6_today 12 = .ok (.iconst 0, 1) := by decide +kernel
theorem dX6_today_13 : decode cX6_today 13 = .ok (.iload_n 2, 1) := by decide +kernel
theorem dX6_today_14 : decode cX6_today 14 = .ok (.iload_n 3, 1) := by decide +kernel
theorem dX6_today_15 : decode cX6_today 15 = .ok (.sipush 720, 3) := by decide +kernel
theorem dX6_today_18 : decode cX6_today 18 = .ok (.iadd, 1) := by decide +kernel
theorem dX6_today_19 : decode cX6_today 19 = .ok (.invokestatic 80, 3) := by decide +kernel
theorem dX6_today_22 : decode cX6_today 22 = .ok (.iload_n 1, 1) := by decide +kernel
theorem dX6_today_23 : decode cX6_today 23 = .ok (.iload_n 3, 1) := by decide +kernel
theorem dX6_today_24 : decode cX6_today 24 = .ok (.invokestatic 64, 3) := by decide +kernel
theorem dX6_today_27 : decode cX6_today 27 = .ok (.isub, 1) := by decide +kernel
theorem dX6_today_28 : decode cX6_today 28 = .ok (.invokestatic 64, 3) := by decide +kernel
theorem dX6_today_31 : decode cX6_today 31 = .ok (.ireturn, 1) := by decide +kernel
theorem dX6_go_0 : decode cX6_go 0 = .ok (.aload_n 0, 1) := by decide +kernel
theorem dX6_go_1 : decode cX6_go 1 = .ok (.invokevirtual 83, 3) := by decide +kernel
theorem dX6_go_4 : decode cX6_go 4 = .ok (.istore_n 2, 1) := by decide +kernel
theorem dX6_go_5 : decode cX6_go 5 = .ok (.aload_n 0, 1) := by decide +kernel
theorem dX6_go_6 : decode cX6_go 6 = .ok (.dup, 1) := by decide +kernel
theorem dX6_go_7 : decode cX6_go 7 = .ok (.getfield 55, 3) := by decide +kernel
theorem dX6_go_10 : decode cX6_go 10 = .ok (.iconst 1, 1) := by decide +kernel
theorem dX6_go_11 : decode cX6_go 11 = .ok (.iadd, 1) := by decide +kernel
theorem dX6_go_12 : decode cX6_go 12 = .ok (.putfield 55, 3) := by decide +kernel
theorem dX6_go_15 : decode cX6_go 15 = .ok (.aload_n 0, 1) := by decide +kernel
theorem dX6_go_16 : decode cX6_go 16 = .ok (.iconst 0, 1) := by decide +kernel
theorem dX6_go_17 : decode cX6_go 17 = .ok (.sipush 400, 3) := by decide +kernel
theorem dX6_go_20 : decode cX6_go 20 = .ok (.aload_n 0, 1) := by decide +kernel
theorem dX6_go_21 : decode cX6_go 21 = .ok (.getfield 29, 3) := by decide +kernel
theorem dX6_go_24 : decode cX6_go 24 = .ok (.iload_n 1, 1) := by decide +kernel
theorem dX6_go_25 : decode cX6_go 25 = .ok (.iconst 3, 1) := by decide +kernel
theorem dX6_go_26 : decode cX6_go 26 = .ok (.idiv, 1) := by decide +kernel
theorem dX6_go_27 : decode cX6_go 27 = .ok (.iadd, 1) := by decide +kernel
theorem dX6_go_28 : decode cX6_go 28 = .ok (.iload_n 2, 1) := by decide +kernel
theorem dX6_go_29 : decode cX6_go 29 = .ok (.isub, 1) := by decide +kernel
theorem dX6_go_30 : decode cX6_go 30 = .ok (.aload_n 0, 1) := by decide +kernel
theorem dX6_go_31 : decode cX6_go 31 = .ok (.getfield 61, 3) := by decide +kernel
theorem dX6_go_34 : decode cX6_go 34 = .ok (.isub, 1) := by decide +kernel
theorem dX6_go_35 : decode cX6_go 35 = .ok (.invokestatic 80, 3) := by decide +kernel
theorem dX6_go_38 : decode cX6_go 38 = .ok (.invokestatic 64, 3) := by decide +kernel
theorem dX6_go_41 : decode cX6_go 41 = .ok (.putfield 29, 3) := by decide +kernel
theorem dX6_go_44 : decode cX6_go 44 = .ok (.aload_n 0, 1) := by decide +kernel
theorem dX6_go_45 : decode cX6_go 45 = .ok (.getfield 55, 3) := by decide +kernel
theorem dX6_go_48 : decode cX6_go 48 = .ok (.bipush 70, 2) := by decide +kernel
theorem dX6_go_50 : decode cX6_go 50 = .ok (.irem, 1) := by decide +kernel
theorem dX6_go_51 : decode cX6_go 51 = .ok (.bipush 10, 2) := by decide +kernel
theorem dX6_go_53 : decode cX6_go 53 = .ok (.irem, 1) := by decide +kernel
theorem dX6_go_54 : decode cX6_go 54 = .ok (.ifCond .ne 18, 3) := by decide +kernel
theorem dX6_go_57 : decode cX6_go 57 = .ok (.aload_n 0, 1) := by decide +kernel
theorem dX6_go_58 : decode cX6_go 58 = .ok (.bipush 30, 2) := by decide +kernel
theorem dX6_go_60 : decode cX6_go 60 = .ok (.aload_n 0, 1) := by decide +kernel
theorem dX6_go_61 : decode cX6_go 61 = .ok (.getfield 58, 3) := by decide +kernel
theorem dX6_go_64 : decode cX6_go 64 = .ok (.iconst 1, 1) := by decide +kernel
theorem dX6_go_65 : decode cX6_go 65 = .ok (.iadd, 1) := by decide +kernel
theorem dX6_go_66 : decode cX6_go 66 = .ok (.invokestatic 80, 3) := by decide +kernel
theorem dX6_go_69 : decode cX6_go 69 = .ok (.putfield 58, 3) := by decide +kernel
theorem dX6_go_72 : decode cX6_go 72 = .ok (.aload_n 0, 1) := by decide +kernel
theorem dX6_go_73 : decode cX6_go 73 = .ok (.aload_n 0, 1) := by decide +kernel
theorem dX6_go_74 : decode cX6_go 74 = .ok (.invokevirtual 83, 3) := by decide +kernel
theorem dX6_go_77 : decode cX6_go 77 = .ok (.invokevirtual 87, 3) := by decide +kernel
theorem dX6_go_80 : decode cX6_go 80 = .ok (.istore_n 3, 1) := by decide +kernel
theorem dX6_go_81 : decode cX6_go 81 = .ok (.iconst 0, 1) := by decide +kernel
theorem dX6_go_82 : decode cX6_go 82 = .ok (.istore 4, 2) := by decide +kernel
theorem dX6_go_84 : decode cX6_go 84 = .ok (.iload 4, 2) := by decide +kernel
theorem dX6_go_86 : decode cX6_go 86 = .ok (.aload_n 0, 1) := by decide +kernel
theorem dX6_go_87 : decode cX6_go 87 = .ok (.getfield 52, 3) := by decide +kernel
theorem dX6_go_90 : decode cX6_go 90 = .ok (.if_icmp .ge 25, 3) := by decide +kernel
theorem dX6_go_93 : decode cX6_go 93 = .ok (.aload_n 0, 1) := by decide +kernel
theorem dX6_go_94 : decode cX6_go 94 = .ok (.aload_n 0, 1) := by decide +kernel
theorem dX6_go_95 : decode cX6_go 95 = .ok (.getfield 11, 3) := by decide +kernel
theorem dX6_go_98 : decode cX6_go 98 = .ok (.aload_n 0, 1) := by decide +kernel
theorem dX6_go_99 : decode cX6_go 99 = .ok (.getfield 16, 3) := by decide +kernel
theorem dX6_go_102 : decode cX6_go 102 = .ok (.iload 4, 2) := by decide +kernel
theorem dX6_go_104 : decode cX6_go 104 = .ok (.iaload, 1) := by decide +kernel
theorem dX6_go_105 : decode cX6_go 105 = .ok (.aaload, 1) := by decide +kernel
theorem dX6_go_106 : decode cX6_go 106 = .ok (.invokevirtual 90, 3) := by decide +kernel
theorem dX6_go_109 : decode cX6_go 109 = .ok (.iinc 4 1, 3) := by decide +kernel
theorem dX6_go_112 : decode cX6_go 112 = .ok (.goto (-28), 3) := by decide +kernel
theorem dX6_go_115 : decode cX6_go 115 = .ok (.aload_n 0, 1) := by decide +kernel
theorem dX6_go_116 : decode cX6_go 116 = .ok (.getfield 55, 3) := by decide +kernel
theorem dX6_go_119 : decode cX6_go 119 = .ok (.bipush 70, 2) := by decide +kernel
theorem dX6_go_121 : decode cX6_go 121 = .ok (.irem, 1) := by decide +kernel
theorem dX6_go_122 : decode cX6_go 122 = .ok (.bipush 60, 2) := by decide +kernel
theorem dX6_go_124 : decode cX6_go 124 = .ok (.if_icmp .ne 7, 3) := by decide +kernel
theorem dX6_go_127 : decode cX6_go 127 = .ok (.aload_n 0, 1) := by decide +kernel
theorem dX6_go_128 : decode cX6_go 128 = .ok (.invokevirtual 94, 3) := by decide +kernel
theorem dX6_go_131 : decode cX6_go 131 = .ok (.aload_n 0, 1) := by decide +kernel
theorem dX6_go_132 : decode cX6_go 132 = .ok (.getfield 55, 3) := by decide +kernel
theorem dX6_go_135 : decode cX6_go 135 = .ok (.bipush 7, 2) := by decide +kernel
theorem dX6_go_137 : decode cX6_go 137 = .ok (.irem, 1) := by decide +kernel
theorem dX6_go_138 : decode cX6_go 138 = .ok (.ifCond .ne 7, 3) := by decide +kernel
theorem dX6_go_141 : decode cX6_go 141 = .ok (.aload_n 0, 1) := by decide +kernel
theorem dX6_go_142 : decode cX6_go 142 = .ok (.invokevirtual 97, 3) := by decide +kernel
theorem dX6_go_145 : decode cX6_go 145 = .ok (.iload_n 3, 1) := by decide +kernel
theorem dX6_go_146 : decode cX6_go 146 = .ok (.ireturn, 1) := by decide +kernel
theorem dX6_water_0 : decode cX6_water 0 = .ok (.iconst 0, 1) := by decide +kernel
theorem dX6_water_1 : decode cX6_water 1 = .ok (.istore_n 2, 1) := by decide +kernel
theorem dX6_water_2 : decode cX6_water 2 = .ok (.iconst 0, 1) := by decide +kernel
theorem dX6_water_3 : decode cX6_water 3 = .ok (.istore_n 3, 1) := by decide +kernel
theorem dX6_water_4 : decode cX6_water 4 = .ok (.iload_n 3, 1) := by decide +kernel
theorem dX6_water_5 : decode cX6_water 5 = .ok (.aload_n 0, 1) := by decide +kernel
theorem dX6_water_6 : decode cX6_water 6 = .ok (.getfield 52, 3) := by decide +kernel
theorem dX6_water_9 : decode cX6_water 9 = .ok (.if_icmp .ge 21, 3) := by decide +kernel
theorem dX6_water_12 : decode cX6_water 12 = .ok (.aload_n 0, 1) := by decide +kernel
theorem dX6_water_13 : decode cX6_water 13 = .ok (.getfield 26, 3) := by decide +kernel
theorem dX6_water_16 : decode cX6_water 16 = .ok (.aload_n 0, 1) := by decide +kernel
theorem dX6_water_17 : decode cX6_water 17 = .ok (.getfield 16, 3) := by decide +kernel
theorem dX6_water_20 : decode cX6_water 20 = .ok (.iload_n 3, 1) := by decide +kernel
theorem dX6_water_21 : decode cX6_water 21 = .ok (.iaload, 1) := by decide +kernel
theorem dX6_water_22 : decode cX6_water 22 = .ok (.iconst 0, 1) := by decide +kernel
theorem dX6_water_23 : decode cX6_water 23 = .ok (.iastore, 1) := by decide +kernel
theorem dX6_water_24 : decode cX6_water 24 = .ok (.iinc 3 1, 3) := by decide +kernel
theorem dX6_water_27 : decode cX6_water 27 = .ok (.goto (-23), 3) := by decide +kernel
theorem dX6_water_30 : decode cX6_water 30 = .ok (.iconst 0, 1) := by decide +kernel
theorem dX6_water_31 : decode cX6_water 31 = .ok (.istore_n 3, 1) := by decide +kernel
theorem dX6_water_32 : decode cX6_water 32 = .ok (.iload_n 3, 1) := by decide +kernel
theorem dX6_water_33 : decode cX6_water 33 = .ok (.aload_n 0, 1) := by decide +kernel
theorem dX6_water_34 : decode cX6_water 34 = .ok (.getfield 52, 3) := by decide +kernel
theorem dX6_water_37 : decode cX6_water 37 = .ok (.if_icmp .ge 141, 3) := by decide +kernel
theorem dX6_water_40 : decode cX6_water 40 = .ok (.aload_n 0, 1) := by decide +kernel
theorem dX6_water_41 : decode cX6_water 41 = .ok (.getfield 16, 3) := by decide +kernel
theorem dX6_water_44 : decode cX6_water 44 = .ok (.iload_n 3, 1) := by decide +kernel
theorem dX6_water_45 : decode cX6_water 45 = .ok (.iaload, 1) := by decide +kernel
theorem dX6_water_46 : decode cX6_water 46 = .ok (.istore 4, 2) := by decide +kernel
theorem dX6_water_48 : decode cX6_water 48 = .ok (.iload_n 2, 1) := by decide +kernel
theorem dX6_water_49 : decode cX6_water 49 = .ok (.istore 5, 2) := by decide +kernel
theorem dX6_water_51 : decode cX6_water 51 = .ok (.iload_n 2, 1) := by decide +kernel
theorem dX6_water_52 : decode cX6_water 52 = .ok (.aload_n 0, 1) := by decide +kernel
theorem dX6_water_53 : decode cX6_water 53 = .ok (.getfield 11, 3) := by decide +kernel
theorem dX6_water_56 : decode cX6_water 56 = .ok (.iload 4, 2) := by decide +kernel
theorem dX6_water_58 : decode cX6_water 58 = .ok (.aaload, 1) := by decide +kernel
theorem dX6_water_59 : decode cX6_water 59 = .ok (.iconst 0, 1) := by decide +kernel
theorem dX6_water_60 : decode cX6_water 60 = .ok (.iaload, 1) := by decide +kernel
theorem dX6_water_61 : decode cX6_water 61 = .ok (.iadd, 1) := by decide +kernel
theorem dX6_water_62 : decode cX6_water 62 = .ok (.istore_n 2, 1) := by decide +kernel
theorem dX6_water_63 : decode cX6_water 63 = .ok (.iload_n 2, 1) := by decide +kernel
theorem dX6_water_64 : decode cX6_water 64 = .ok (.istore 6, 2) := by decide +kernel
theorem dX6_water_66 : decode cX6_water 66 = .ok (.iconst 0, 1) := by decide +kernel
theorem dX6_water_67 : decode cX6_water 67 = .ok (.istore 7, 2) := by decide +kernel
theorem dX6_water_69 : decode cX6_water 69 = .ok (.iload 7, 2) := by decide +kernel
theorem dX6_water_71 : decode cX6_water 71 = .ok (.aload_n 0, 1) := by decide +kernel
theorem dX6_water_72 : decode cX6_water 72 = .ok (.getfield 46, 3) := by decide +kernel
theorem dX6_water_75 : decode cX6_water 75 = .ok (.if_icmp .ge 77, 3) := by decide +kernel
theorem dX6_water_78 : decode cX6_water 78 = .ok (.aload_n 0, 1) := by decide +kernel
theorem dX6_water_79 : decode cX6_water 79 = .ok (.getfield 20, 3) := by decide +kernel
theorem dX6_water_82 : decode cX6_water 82 = .ok (.iload 7, 2) := by decide +kernel
theorem dX6_water_84 : decode cX6_water 84 = .ok (.aaload, 1) := by decide +kernel
theorem dX6_water_85 : decode cX6_water 85 = .ok (.iconst 0, 1) := by decide +kernel
theorem dX6_water_86 : decode cX6_water 86 = .ok (.iaload, 1) := by decide +kernel
theorem dX6_water_87 : decode cX6_water 87 = .ok (.iload 4, 2) := by decide +kernel
theorem dX6_water_89 : decode cX6_water 89 = .ok (.if_icmp .eq 6, 3) := by decide +kernel
theorem dX6_water_92 : decode cX6_water 92 = .ok (.goto 54, 3) := by decide +kernel
theorem dX6_water_95 : decode cX6_water 95 = .ok (.aload_n 0, 1) := by decide +kernel
theorem dX6_water_96 : decode cX6_water 96 = .ok (.getfield 26, 3) := by decide +kernel
theorem dX6_water_99 : decode cX6_water 99 = .ok (.aload_n 0, 1) := by decide +kernel
theorem dX6_water_100 : decode cX6_water 100 = .ok (.getfield 20, 3) := by decide +kernel
theorem dX6_water_103 : decode cX6_water 103 = .ok (.iload 7, 2) := by decide +kernel
theorem dX6_water_105 : decode cX6_water 105 = .ok (.aaload, 1) := by decide +kernel
theorem dX6_water_106 : decode cX6_water 106 = .ok (.iconst 1, 1) := by decide +kernel
theorem dX6_water_107 : decode cX6_water 107 = .ok (.iaload, 1) := by decide +kernel
theorem dX6_water_108 : decode cX6_water 108 = .ok (.dup2, 1) := by decide +kernel
theorem dX6_water_109 : decode cX6_water 109 = .ok (.iaload, 1) := by decide +kernel
theorem dX6_water_110 : decode cX6_water 110 = .ok (.iload_n 1, 1) := by decide +kernel
theorem dX6_water_111 : decode cX6_water 111 = .ok (.aload_n 0, 1) := by decide +kernel
theorem dX6_water_112 : decode cX6_water 112 = .ok (.iload 6, 2) := by decide +kernel
theorem dX6_water_114 : decode cX6_water 114 = .ok (.aload_n 0, 1) := by decide +kernel
theorem dX6_water_115 : decode cX6_water 115 = .ok (.getfield 20, 3) := by decide +kernel
theorem dX6_water_118 : decode cX6_water 118 = .ok (.iload 7, 2) := by decide +kernel
theorem dX6_water_120 : decode cX6_water 120 = .ok (.aaload, 1) := by decide +kernel
theorem dX6_water_121 : decode cX6_water 121 = .ok (.iconst 2, 1) := by decide +kernel
theorem dX6_water_122 : decode cX6_water 122 = .ok (.iaload, 1) := by decide +kernel
theorem dX6_water_123 : decode cX6_water 123 = .ok (.isub, 1) := by decide +kernel
theorem dX6_water_124 : decode cX6_water 124 = .ok (.iload 6, 2) := by decide +kernel
theorem dX6_water_126 : decode cX6_water 126 = .ok (.invokevirtual 100, 3) := by decide +kernel
theorem dX6_water_129 : decode cX6_water 129 = .ok (.imul, 1) := by decide +kernel
theorem dX6_water_130 : decode cX6_water 130 = .ok (.iadd, 1) := by decide +kernel
theorem dX6_water_131 : decode cX6_water 131 = .ok (.iastore, 1) := by decide +kernel
theorem dX6_water_132 : decode cX6_water 132 = .ok (.iload 6, 2) := by decide +kernel
theorem dX6_water_134 : decode cX6_water 134 = .ok (.aload_n 0, 1) := by decide +kernel
theorem dX6_water_135 : decode cX6_water 135 = .ok (.getfield 20, 3) := by decide +kernel
theorem dX6_water_138 : decode cX6_water 138 = .ok (.iload 7, 2) := by decide +kernel
theorem dX6_water_140 : decode cX6_water 140 = .ok (.aaload, 1) := by decide +kernel
theorem dX6_water_141 : decode cX6_water 141 = .ok (.iconst 2, 1) := by decide +kernel
theorem dX6_water_142 : decode cX6_water 142 = .ok (.iaload, 1) := by decide +kernel
theorem dX6_water_143 : decode cX6_water 143 = .ok (.isub, 1) := by decide +kernel
theorem dX6_water_144 : decode cX6_water 144 = .ok (.istore 6, 2) := by decide +kernel
theorem dX6_water_146 : decode cX6_water 146 = .ok (.iinc 7 1, 3) := by decide +kernel
theorem dX6_water_149 : decode cX6_water 149 = .ok (.goto (-80), 3) := by decide +kernel
theorem dX6_water_152 : decode cX6_water 152 = .ok (.aload_n 0, 1) := by decide +kernel
theorem dX6_water_153 : decode cX6_water 153 = .ok (.getfield 26, 3) := by decide +kernel
theorem dX6_water_156 : decode cX6_water 156 = .ok (.iload 4, 2) := by decide +kernel
theorem dX6_water_158 : decode cX6_water 158 = .ok (.dup2, 1) := by decide +kernel
theorem dX6_water_159 : decode cX6_water 159 = .ok (.iaload, 1) := by decide +kernel
theorem dX6_water_160 : decode cX6_water 160 = .ok (.iload_n 1, 1) := by decide +kernel
theorem dX6_water_161 : decode cX6_water 161 = .ok (.aload_n 0, 1) := by decide +kernel
theorem dX6_water_162 : decode cX6_water 162 = .ok (.iload 5, 2) := by decide +kernel
theorem dX6_water_164 : decode cX6_water 164 = .ok (.iload 6, 2) := by decide +kernel
theorem dX6_water_166 : decode cX6_water 166 = .ok (.invokevirtual 100, 3) := by decide +kernel
theorem dX6_water_169 : decode cX6_water 169 = .ok (.imul, 1) := by decide +kernel
theorem dX6_water_170 : decode cX6_water 170 = .ok (.iadd, 1) := by decide +kernel
theorem dX6_water_171 : decode cX6_water 171 = .ok (.iastore, 1) := by decide +kernel
theorem dX6_water_172 : decode cX6_water 172 = .ok (.iinc 3 1, 3) := by decide +kernel
theorem dX6_water_175 : decode cX6_water 175 = .ok (.goto (-143), 3) := by decide +kernel
theorem dX6_water_178 : decode cX6_water 178 = .ok (.aload_n 0, 1) := by decide +kernel
theorem dX6_water_179 : decode cX6_water 179 = .ok (.dup, 1) := by decide +kernel
theorem dX6_water_180 : decode cX6_water 180 = .ok (.getfield 103, 3) := by decide +kernel
theorem dX6_water_183 : decode cX6_water 183 = .ok (.iload_n 1, 1) := by decide +kernel
theorem dX6_water_184 : decode cX6_water 184 = .ok (.aload_n 0, 1) := by decide +kernel
theorem dX6_water_185 : decode cX6_water 185 = .ok (.iload_n 2, 1) := by decide +kernel
theorem dX6_water_186 : decode cX6_water 186 = .ok (.sipush 5040, 3) := by decide +kernel
theorem dX6_water_189 : decode cX6_water 189 = .ok (.invokevirtual 100, 3) := by decide +kernel
theorem dX6_water_192 : decode cX6_water 192 = .ok (.imul, 1) := by decide +kernel
theorem dX6_water_193 : decode cX6_water 193 = .ok (.iadd, 1) := by decide +kernel
theorem dX6_water_194 : decode cX6_water 194 = .ok (.putfield 103, 3) := by decide +kernel
theorem dX6_water_197 : decode cX6_water 197 = .ok (.iconst 0, 1) := by decide +kernel
theorem dX6_water_198 : decode cX6_water 198 = .ok (.istore_n 3, 1) := by decide +kernel
theorem dX6_water_199 : decode cX6_water 199 = .ok (.iconst 0, 1) := by decide +kernel
theorem dX6_water_200 : decode cX6_water 200 = .ok (.istore 4, 2) := by decide +kernel
theorem dX6_water_202 : decode cX6_water 202 = .ok (.iload 4, 2) := by decide +kernel
theorem dX6_water_204 : decode cX6_water 204 = .ok (.aload_n 0, 1) := by decide +kernel
theorem dX6_water_205 : decode cX6_water 205 = .ok (.getfield 52, 3) := by decide +kernel
theorem dX6_water_208 : decode cX6_water 208 = .ok (.if_icmp .ge 99, 3) := by decide +kernel
theorem dX6_water_211 : decode cX6_water 211 = .ok (.aload_n 0, 1) := by decide +kernel
theorem dX6_water_212 : decode cX6_water 212 = .ok (.getfield 11, 3) := by decide +kernel
theorem dX6_water_215 : decode cX6_water 215 = .ok (.aload_n 0, 1) := by decide +kernel
theorem dX6_water_216 : decode cX6_water 216 = .ok (.getfield 16, 3) := by decide +kernel
theorem dX6_water_219 : decode cX6_water 219 = .ok (.iload 4, 2) := by decide +kernel
theorem dX6_water_221 : decode cX6_water 221 = .ok (.iaload, 1) := by decide +kernel
theorem dX6_water_222 : decode cX6_water 222 = .ok (.aaload, 1) := by decide +kernel
theorem dX6_water_223 : decode cX6_water 223 = .ok (.astore 5, 2) := by decide +kernel
theorem dX6_water_225 : decode cX6_water 225 = .ok (.aload 5, 2) := by decide +kernel
theorem dX6_water_227 : decode cX6_water 227 = .ok (.bipush 9, 2) := by decide +kernel
theorem dX6_water_229 : decode cX6_water 229 = .ok (.aload_n 0, 1) := by decide +kernel
theorem dX6_water_230 : decode cX6_water 230 = .ok (.getfield 26, 3) := by decide +kernel
theorem dX6_water_233 : decode cX6_water 233 = .ok (.aload_n 0, 1) := by decide +kernel
theorem dX6_water_234 : decode cX6_water 234 = .ok (.getfield 16, 3) := by decide +kernel
theorem dX6_water_237 : decode cX6_water 237 = .ok (.iload 4, 2) := by decide +kernel
theorem dX6_water_239 : decode cX6_water 239 = .ok (.iaload, 1) := by decide +kernel
theorem dX6_water_240 : decode cX6_water 240 = .ok (.iaload, 1) := by decide +kernel
theorem dX6_water_241 : decode cX6_water 241 = .ok (.bipush 100, 2) := by decide +kernel
theorem dX6_water_243 : decode cX6_water 243 = .ok (.iconst 2, 1) := by decide +kernel
theorem dX6_water_244 : decode cX6_water 244 = .ok (.iload 4, 2) := by decide +kernel
theorem dX6_water_246 : decode cX6_water 246 = .ok (.imul, 1) := by decide +kernel
theorem dX6_water_247 : decode cX6_water 247 = .ok (.isub, 1) := by decide +kernel
theorem dX6_water_248 : decode cX6_water 248 = .ok (.imul, 1) := by decide +kernel
theorem dX6_water_249 : decode cX6_water 249 = .ok (.bipush 100, 2) := by decide +kernel
theorem dX6_water_251 : decode cX6_water 251 = .ok (.idiv, 1) := by decide +kernel
theorem dX6_water_252 : decode cX6_water 252 = .ok (.iastore, 1) := by decide +kernel
theorem dX6_water_253 : decode cX6_water 253 = .ok (.aload 5, 2) := by decide +kernel
theorem dX6_water_255 : decode cX6_water 255 = .ok (.bipush 10, 2) := by decide +kernel
theorem dX6_water_257 : decode cX6_water 257 = .ok (.dup2, 1) := by decide +kernel
theorem dX6_water_258 : decode cX6_water 258 = .ok (.iaload, 1) := by decide +kernel
theorem dX6_water_259 : decode cX6_water 259 = .ok (.aload 5, 2) := by decide +kernel
theorem dX6_water_261 : decode cX6_water 261 = .ok (.bipush 9, 2) := by decide +kernel
theorem dX6_water_263 : decode cX6_water 263 = .ok (.iaload, 1) := by decide +kernel
theorem dX6_water_264 : decode cX6_water 264 = .ok (.iadd, 1) := by decide +kernel
theorem dX6_water_265 : decode cX6_water 265 = .ok (.iastore, 1) := by decide +kernel
theorem dX6_water_266 : decode cX6_water 266 = .ok (.aload_n 0, 1) := by decide +kernel
theorem dX6_water_267 : decode cX6_water 267 = .ok (.dup, 1) := by decide +kernel
theorem dX6_water_268 : decode cX6_water 268 = .ok (.getfield 106, 3) := by decide +kernel
theorem dX6_water_271 : decode cX6_water 271 = .ok (.aload_n 0, 1) := by decide +kernel
theorem dX6_water_272 : decode cX6_water 272 = .ok (.getfield 26, 3) := by decide +kernel
theorem dX6_water_275 : decode cX6_water 275 = .ok (.aload_n 0, 1) := by decide +kernel
theorem dX6_water_276 : decode cX6_water 276 = .ok (.getfield 16, 3) := by decide +kernel
theorem dX6_water_279 : decode cX6_water 279 = .ok (.iload 4, 2) := by decide +kernel
theorem dX6_water_281 : decode cX6_water 281 = .ok (.iaload, 1) := by decide +kernel
theorem dX6_water_282 : decode cX6_water 282 = .ok (.iaload, 1) := by decide +kernel
theorem dX6_water_283 : decode cX6_water 283 = .ok (.aload 5, 2) := by decide +kernel
theorem dX6_water_285 : decode cX6_water 285 = .ok (.bipush 9, 2) := by decide +kernel
theorem dX6_water_287 : decode cX6_water 287 = .ok (.iaload, 1) := by decide +kernel
theorem dX6_water_288 : decode cX6_water 288 = .ok (.isub, 1) := by decide +kernel
theorem dX6_water_289 : decode cX6_water 289 = .ok (.iadd, 1) := by decide +kernel
theorem dX6_water_290 : decode cX6_water 290 = .ok (.putfield 106, 3) := by decide +kernel
theorem dX6_water_293 : decode cX6_water 293 = .ok (.iload_n 3, 1) := by decide +kernel
theorem dX6_water_294 : decode cX6_water 294 = .ok (.aload 5, 2) := by decide +kernel
theorem dX6_water_296 : decode cX6_water 296 = .ok (.bipush 9, 2) := by decide +kernel
theorem dX6_water_298 : decode cX6_water 298 = .ok (.iaload, 1) := by decide +kernel
theorem dX6_water_299 : decode cX6_water 299 = .ok (.iadd, 1) := by decide +kernel
theorem dX6_water_300 : decode cX6_water 300 = .ok (.istore_n 3, 1) := by decide +kernel
theorem dX6_water_301 : decode cX6_water 301 = .ok (.iinc 4 1, 3) := by decide +kernel
theorem dX6_water_304 : decode cX6_water 304 = .ok (.goto (-102), 3) := by decide +kernel
theorem dX6_water_307 : decode cX6_water 307 = .ok (.iload_n 3, 1) := by decide +kernel
theorem dX6_water_308 : decode cX6_water 308 = .ok (.ireturn, 1) := by decide +kernel
theorem dX6_palms_0 : decode cX6_palms 0 = .ok (.aload_n 1, 1) := by decide +kernel
theorem dX6_palms_1 : decode cX6_palms 1 = .ok (.iconst 2, 1) := by decide +kernel
theorem dX6_palms_2 : decode cX6_palms 2 = .ok (.iaload, 1) := by decide +kernel
theorem dX6_palms_3 : decode cX6_palms 3 = .ok (.ifCond .ne 4, 3) := by decide +kernel
theorem dX6_palms_6 : decode cX6_palms 6 = .ok (.return_, 1) := by decide +kernel
theorem dX6_palms_7 : decode cX6_palms 7 = .ok (.bipush 20, 2) := by decide +kernel
theorem dX6_palms_9 : decode cX6_palms 9 = .ok (.aload_n 1, 1) := by decide +kernel
theorem dX6_palms_10 : decode cX6_palms 10 = .ok (.iconst 2, 1) := by decide +kernel
theorem dX6_palms_11 : decode cX6_palms 11 = .ok (.iaload, 1) := by decide +kernel
theorem dX6_palms_12 : decode cX6_palms 12 = .ok (.imul, 1) := by decide +kernel
theorem dX6_palms_13 : decode cX6_palms 13 = .ok (.istore_n 2, 1) := by decide +kernel
theorem dX6_palms_14 : decode cX6_palms 14 = .ok (.aload_n 1, 1) := by decide +kernel
theorem dX6_palms_15 : decode cX6_palms 15 = .ok (.iconst 4, 1) := by decide +kernel
theorem dX6_palms_16 : decode cX6_palms 16 = .ok (.iconst 0, 1) := by decide +kernel
theorem dX6_palms_17 : decode cX6_palms 17 = .ok (.bipush 99, 2) := by decide +kernel
theorem dX6_palms_19 : decode cX6_palms 19 = .ok (.aload_n 1, 1) := by decide +kernel
theorem dX6_palms_20 : decode cX6_palms 20 = .ok (.iconst 4, 1) := by decide +kernel
theorem dX6_palms_21 : decode cX6_palms 21 = .ok (.iaload, 1) := by decide +kernel
theorem dX6_palms_22 : decode cX6_palms 22 = .ok (.bipush 40, 2) := by decide +kernel
theorem dX6_palms_24 : decode cX6_palms 24 = .ok (.aload_n 1, 1) := by decide +kernel
theorem dX6_palms_25 : decode cX6_palms 25 = .ok (.bipush 9, 2) := by decide +kernel
theorem dX6_palms_27 : decode cX6_palms 27 = .ok (.iaload, 1) := by decide +kernel
theorem dX6_palms_28 : decode cX6_palms 28 = .ok (.bipush 30, 2) := by decide +kernel
theorem dX6_palms_30 : decode cX6_palms 30 = .ok (.imul, 1) := by decide +kernel
theorem dX6_palms_31 : decode cX6_palms 31 = .ok (.iload_n 2, 1) := by decide +kernel
theorem dX6_palms_32 : decode cX6_palms 32 = .ok (.idiv, 1) := by decide +kernel
theorem dX6_palms_33 : decode cX6_palms 33 = .ok (.invokestatic 80, 3) := by decide +kernel
theorem dX6_palms_36 : decode cX6_palms 36 = .ok (.iadd, 1) := by decide +kernel
theorem dX6_palms_37 : decode cX6_palms 37 = .ok (.invokestatic 80, 3) := by decide +kernel
theorem dX6_palms_40 : decode cX6_palms 40 = .ok (.bipush 6, 2) := by decide +kernel
theorem dX6_palms_42 : decode cX6_palms 42 = .ok (.isub, 1) := by decide +kernel
theorem dX6_palms_43 : decode cX6_palms 43 = .ok (.invokestatic 64, 3) := by decide +kernel
theorem dX6_palms_46 : decode cX6_palms 46 = .ok (.iastore, 1) := by decide +kernel
theorem dX6_palms_47 : decode cX6_palms 47 = .ok (.aload_n 1, 1) := by decide +kernel
theorem dX6_palms_48 : decode cX6_palms 48 = .ok (.bipush 9, 2) := by decide +kernel
theorem dX6_palms_50 : decode cX6_palms 50 = .ok (.iaload, 1) := by decide +kernel
theorem dX6_palms_51 : decode cX6_palms 51 = .ok (.iconst 2, 1) := by decide +kernel
theorem dX6_palms_52 : decode cX6_palms 52 = .ok (.iload_n 2, 1) := by decide +kernel
theorem dX6_palms_53 : decode cX6_palms 53 = .ok (.imul, 1) := by decide +kernel
theorem dX6_palms_54 : decode cX6_palms 54 = .ok (.if_icmp .le 16, 3) := by decide +kernel
theorem dX6_palms_57 : decode cX6_palms 57 = .ok (.aload_n 1, 1) := by decide +kernel
theorem dX6_palms_58 : decode cX6_palms 58 = .ok (.iconst 5, 1) := by decide +kernel
theorem dX6_palms_59 : decode cX6_palms 59 = .ok (.bipush 99, 2) := by decide +kernel
theorem dX6_palms_61 : decode cX6_palms 61 = .ok (.aload_n 1, 1) := by decide +kernel
theorem dX6_palms_62 : decode cX6_palms 62 = .ok (.iconst 5, 1) := by decide +kernel
theorem dX6_palms_63 : decode cX6_palms 63 = .ok (.iaload, 1) := by decide +kernel
theorem dX6_palms_64 : decode cX6_palms 64 = .ok (.iconst 1, 1) := by decide +kernel
theorem dX6_palms_65 : decode cX6_palms 65 = .ok (.iadd, 1) := by decide +kernel
theorem dX6_palms_66 : decode cX6_palms 66 = .ok (.invokestatic 80, 3) := by decide +kernel
theorem dX6_palms_69 : decode cX6_palms 69 = .ok (.iastore, 1) := by decide +kernel
theorem dX6_palms_70 : decode cX6_palms 70 = .ok (.aload_n 0, 1) := by decide +kernel
theorem dX6_palms_71 : decode cX6_palms 71 = .ok (.getfield 55, 3) := by decide +kernel
theorem dX6_palms_74 : decode cX6_palms 74 = .ok (.bipush 70, 2) := by decide +kernel
theorem dX6_palms_76 : decode cX6_palms 76 = .ok (.irem, 1) := by decide +kernel
theorem dX6_palms_77 : decode cX6_palms 77 = .ok (.bipush 10, 2) := by decide +kernel
theorem dX6_palms_79 : decode cX6_palms 79 = .ok (.irem, 1) := by decide +kernel
theorem dX6_palms_80 : decode cX6_palms 80 = .ok (.ifCond .gt 11, 3) := by decide +kernel
theorem dX6_palms_83 : decode cX6_palms 83 = .ok (.aload_n 1, 1) := by decide +kernel
theorem dX6_palms_84 : decode cX6_palms 84 = .ok (.iconst 4, 1) := by decide +kernel
theorem dX6_palms_85 : decode cX6_palms 85 = .ok (.iaload, 1) := by decide +kernel
theorem dX6_palms_86 : decode cX6_palms 86 = .ok (.bipush 15, 2) := by decide +kernel
theorem dX6_palms_88 : decode cX6_palms 88 = .ok (.if_icmp .lt 4, 3) := by decide +kernel
theorem dX6_palms_91 : decode cX6_palms 91 = .ok (.return_, 1) := by decide +kernel
theorem dX6_palms_92 : decode cX6_palms 92 = .ok (.aload_n 1, 1) := by decide +kernel
theorem dX6_palms_93 : decode cX6_palms 93 = .ok (.iconst 2, 1) := by decide +kernel
theorem dX6_palms_94 : decode cX6_palms 94 = .ok (.dup2, 1) := by decide +kernel
theorem dX6_palms_95 : decode cX6_palms 95 = .ok (.iaload, 1) := by decide +kernel
theorem dX6_palms_96 : decode cX6_palms 96 = .ok (.aload_n 1, 1) := by decide +kernel
theorem dX6_palms_97 : decode cX6_palms 97 = .ok (.iconst 2, 1) := by decide +kernel
theorem dX6_palms_98 : decode cX6_palms 98 = .ok (.iaload, 1) := by decide +kernel
theorem dX6_palms_99 : decode cX6_palms 99 = .ok (.bipush 10, 2) := by decide +kernel
theorem dX6_palms_101 : decode cX6_palms 101 = .ok (.idiv, 1) := by decide +kernel
theorem dX6_palms_102 : decode cX6_palms 102 = .ok (.iconst 1, 1) := by decide +kernel
theorem dX6_palms_103 : decode cX6_palms 103 = .ok (.iadd, 1) := by decide +kernel
theorem dX6_palms_104 : decode cX6_palms 104 = .ok (.isub, 1) := by decide +kernel
theorem dX6_palms_105 : decode cX6_palms 105 = .ok (.iastore, 1) := by decide +kernel
theorem dX6_palms_106 : decode cX6_palms 106 = .ok (.aload_n 1, 1) := by decide +kernel
theorem dX6_palms_107 : decode cX6_palms 107 = .ok (.bipush 7, 2) := by decide +kernel
theorem dX6_palms_109 : decode cX6_palms 109 = .ok (.aload_n 1, 1) := by decide +kernel
theorem dX6_palms_110 : decode cX6_palms 110 = .ok (.bipush 7, 2) := by decide +kernel
theorem dX6_palms_112 : decode cX6_palms 112 = .ok (.iaload, 1) := by decide +kernel
theorem dX6_palms_113 : decode cX6_palms 113 = .ok (.aload_n 1, 1) := by decide +kernel
theorem dX6_palms_114 : decode cX6_palms 114 = .ok (.iconst 2, 1) := by decide +kernel
theorem dX6_palms_115 : decode cX6_palms 115 = .ok (.iaload, 1) := by decide +kernel
theorem dX6_palms_116 : decode cX6_palms 116 = .ok (.invokestatic 80, 3) := by decide +kernel
theorem dX6_palms_119 : decode cX6_palms 119 = .ok (.iastore, 1) := by decide +kernel
theorem dX6_palms_120 : decode cX6_palms 120 = .ok (.return_, 1) := by decide +kernel
theorem dX6_reaped_0 : decode cX6_reaped 0 = .ok (.aload_n 1, 1) := by decide +kernel
theorem dX6_reaped_1 : decode cX6_reaped 1 = .ok (.bipush 7, 2) := by decide +kernel
theorem dX6_reaped_3 : decode cX6_reaped 3 = .ok (.iaload, 1) := by decide +kernel
theorem dX6_reaped_4 : decode cX6_reaped 4 = .ok (.aload_n 1, 1) := by decide +kernel
theorem dX6_reaped_5 : decode cX6_reaped 5 = .ok (.iconst 4, 1) := by decide +kernel
theorem dX6_reaped_6 : decode cX6_reaped 6 = .ok (.iaload, 1) := by decide +kernel
theorem dX6_reaped_7 : decode cX6_reaped 7 = .ok (.imul, 1) := by decide +kernel
theorem dX6_reaped_8 : decode cX6_reaped 8 = .ok (.bipush 100, 2) := by decide +kernel
theorem dX6_reaped_10 : decode cX6_reaped 10 = .ok (.aload_n 1, 1) := by decide +kernel
theorem dX6_reaped_11 : decode cX6_reaped 11 = .ok (.iconst 5, 1) := by decide +kernel
theorem dX6_reaped_12 : decode cX6_reaped 12 = .ok (.iaload, 1) := by decide +kernel
theorem dX6_reaped_13 : decode cX6_reaped 13 = .ok (.isub, 1) := by decide +kernel
theorem dX6_reaped_14 : decode cX6_reaped 14 = .ok (.imul, 1) := by decide +kernel
theorem dX6_reaped_15 : decode cX6_reaped 15 = .ok (.sipush 1000, 3) := by decide +kernel
theorem dX6_reaped_18 : decode cX6_reaped 18 = .ok (.idiv, 1) := by decide +kernel
theorem dX6_reaped_19 : decode cX6_reaped 19 = .ok (.ireturn, 1) := by decide +kernel
theorem dX6_harvest_0 : decode cX6_harvest 0 = .ok (.iconst 0, 1) := by decide +kernel
theorem dX6_harvest_1 : decode cX6_harvest 1 = .ok (.istore_n 1, 1) := by decide +kernel
theorem dX6_harvest_2 : decode cX6_harvest 2 = .ok (.iload_n 1, 1) := by decide +kernel
theorem dX6_harvest_3 : decode cX6_harvest 3 = .ok (.aload_n 0, 1) := by decide +kernel
theorem dX6_harvest_4 : decode cX6_harvest 4 = .ok (.getfield 52, 3) := by decide +kernel
theorem dX6_harvest_7 : decode cX6_harvest 7 = .ok (.if_icmp .ge 47, 3) := by decide +kernel
theorem dX6_harvest_10 : decode cX6_harvest 10 = .ok (.aload_n 0, 1) := by decide +kernel
theorem dX6_harvest_11 : decode cX6_harvest 11 = .ok (.getfield 11, 3) := by decide +kernel
theorem dX6_harvest_14 : decode cX6_harvest 14 = .ok (.aload_n 0, 1) := by decide +kernel
theorem dX6_harvest_15 : decode cX6_harvest 15 = .ok (.getfield 16, 3) := by decide +kernel
theorem dX6_harvest_18 : decode cX6_harvest 18 = .ok (.iload_n 1, 1) := by decide +kernel
theorem dX6_harvest_19 : decode cX6_harvest 19 = .ok (.iaload, 1) := by decide +kernel
theorem dX6_harvest_20 : decode cX6_harvest 20 = .ok (.aaload, 1) := by decide +kernel
theorem dX6_harvest_21 : decode cX6_harvest 21 = .ok (.astore_n 2, 1) := by decide +kernel
theorem dX6_harvest_22 : decode cX6_harvest 22 = .ok (.aload_n 0, 1) := by decide +kernel
theorem dX6_harvest_23 : decode cX6_harvest 23 = .ok (.dup, 1) := by decide +kernel
theorem dX6_harvest_24 : decode cX6_harvest 24 = .ok (.getfield 109, 3) := by decide +kernel
theorem dX6_harvest_27 : decode cX6_harvest 27 = .ok (.aload_n 0, 1) := by decide +kernel
theorem dX6_harvest_28 : decode cX6_harvest 28 = .ok (.aload_n 2, 1) := by decide +kernel
theorem dX6_harvest_29 : decode cX6_harvest 29 = .ok (.invokevirtual 112, 3) := by decide +kernel
theorem dX6_harvest_32 : decode cX6_harvest 32 = .ok (.iadd, 1) := by decide +kernel
theorem dX6_harvest_33 : decode cX6_harvest 33 = .ok (.putfield 109, 3) := by decide +kernel
theorem dX6_harvest_36 : decode cX6_harvest 36 = .ok (.aload_n 2, 1) := by decide +kernel
theorem dX6_harvest_37 : decode cX6_harvest 37 = .ok (.bipush 6, 2) := by decide +kernel
theorem dX6_harvest_39 : decode cX6_harvest 39 = .ok (.dup2, 1) := by decide +kernel
theorem dX6_harvest_40 : decode cX6_harvest 40 = .ok (.iaload, 1) := by decide +kernel
theorem dX6_harvest_41 : decode cX6_harvest 41 = .ok (.aload_n 0, 1) := by decide +kernel
theorem dX6_harvest_42 : decode cX6_harvest 42 = .ok (.aload_n 2, 1) := by decide +kernel
theorem dX6_harvest_43 : decode cX6_harvest 43 = .ok (.invokevirtual 112, 3) := by decide +kernel
theorem dX6_harvest_46 : decode cX6_harvest 46 = .ok (.iadd, 1) := by decide +kernel
theorem dX6_harvest_47 : decode cX6_harvest 47 = .ok (.iastore, 1) := by decide +kernel
theorem dX6_harvest_48 : decode cX6_harvest 48 = .ok (.iinc 1 1, 3) := by decide +kernel
theorem dX6_harvest_51 : decode cX6_harvest 51 = .ok (.goto (-49), 3) := by decide +kernel
theorem dX6_harvest_54 : decode cX6_harvest 54 = .ok (.iconst 0, 1) := by decide +kernel
theorem dX6_harvest_55 : decode cX6_harvest 55 = .ok (.istore_n 1, 1) := by decide +kernel
theorem dX6_harvest_56 : decode cX6_harvest 56 = .ok (.iload_n 1, 1) := by decide +kernel
theorem dX6_harvest_57 : decode cX6_harvest 57 = .ok (.aload_n 0, 1) := by decide +kernel
theorem dX6_harvest_58 : decode cX6_harvest 58 = .ok (.getfield 49, 3) := by decide +kernel
theorem dX6_harvest_61 : decode cX6_harvest 61 = .ok (.if_icmp .ge 110, 3) := by decide +kernel
theorem dX6_harvest_64 : decode cX6_harvest 64 = .ok (.aload_n 0, 1) := by decide +kernel
theorem dX6_harvest_65 : decode cX6_harvest 65 = .ok (.getfield 11, 3) := by decide +kernel
theorem dX6_harvest_68 : decode cX6_harvest 68 = .ok (.aload_n 0, 1) := by decide +kernel
theorem dX6_harvest_69 : decode cX6_harvest 69 = .ok (.getfield 23, 3) := by decide +kernel
theorem dX6_harvest_72 : decode cX6_harvest 72 = .ok (.iload_n 1, 1) := by decide +kernel
theorem dX6_harvest_73 : decode cX6_harvest 73 = .ok (.aaload, 1) := by decide +kernel
theorem dX6_harvest_74 : decode cX6_harvest 74 = .ok (.iconst 0, 1) := by decide +kernel
theorem dX6_harvest_75 : decode cX6_harvest 75 = .ok (.iaload, 1) := by decide +kernel
theorem dX6_harvest_76 : decode cX6_harvest 76 = .ok (.aaload, 1) := by decide +kernel
theorem dX6_harvest_77 : decode cX6_harvest 77 = .ok (.astore_n 2, 1) := by decide +kernel
theorem dX6_harvest_78 : decode cX6_harvest 78 = .ok (.aload_n 0, 1) := by decide +kernel
theorem dX6_harvest_79 : decode cX6_harvest 79 = .ok (.getfield 11, 3) := by decide +kernel
theorem dX6_harvest_82 : decode cX6_harvest 82 = .ok (.aload_n 0, 1) := by decide +kernel
theorem dX6_harvest_83 : decode cX6_harvest 83 = .ok (.getfield 23, 3) := by decide +kernel
theorem dX6_harvest_86 : decode cX6_harvest 86 = .ok (.iload_n 1, 1) := by decide +kernel
theorem dX6_harvest_87 : decode cX6_harvest 87 = .ok (.aaload, 1) := by decide +kernel
theorem dX6_harvest_88 : decode cX6_harvest 88 = .ok (.iconst 1, 1) := by decide +kernel
theorem dX6_harvest_89 : decode cX6_harvest 89 = .ok (.iaload, 1) := by decide +kernel
theorem dX6_harvest_90 : decode cX6_harvest 90 = .ok (.aaload, 1) := by decide +kernel
theorem dX6_harvest_91 : decode cX6_harvest 91 = .ok (.astore_n 3, 1) := by decide +kernel
theorem dX6_harvest_92 : decode cX6_harvest 92 = .ok (.aload_n 0, 1) := by decide +kernel
theorem dX6_harvest_93 : decode cX6_harvest 93 = .ok (.getfield 23, 3) := by decide +kernel
theorem dX6_harvest_96 : decode cX6_harvest 96 = .ok (.iload_n 1, 1) := by decide +kernel
theorem dX6_harvest_97 : decode cX6_harvest 97 = .ok (.aaload, 1) := by decide +kernel
theorem dX6_harvest_98 : decode cX6_harvest 98 = .ok (.iconst 2, 1) := by decide +kernel
theorem dX6_harvest_99 : decode cX6_harvest 99 = .ok (.iaload, 1) := by decide +kernel
theorem dX6_harvest_100 : decode cX6_harvest 100 = .ok (.aload_n 2, 1) := by decide +kernel
theorem dX6_harvest_101 : decode cX6_harvest 101 = .ok (.bipush 6, 2) := by decide +kernel
theorem dX6_harvest_103 : decode cX6_harvest 103 = .ok (.iaload, 1) := by decide +kernel
theorem dX6_harvest_104 : decode cX6_harvest 104 = .ok (.invokestatic 80, 3) := by decide +kernel
theorem dX6_harvest_107 : decode cX6_harvest 107 = .ok (.istore 4, 2) := by decide +kernel
theorem dX6_harvest_109 : decode cX6_harvest 109 = .ok (.aload_n 2, 1) := by decide +kernel
theorem dX6_harvest_110 : decode cX6_harvest 110 = .ok (.bipush 6, 2) := by decide +kernel
theorem dX6_harvest_112 : decode cX6_harvest 112 = .ok (.dup2, 1) := by decide +kernel
theorem dX6_harvest_113 : decode cX6_harvest 113 = .ok (.iaload, 1) := by decide +kernel
theorem dX6_harvest_114 : decode cX6_harvest 114 = .ok (.iload 4, 2) := by decide +kernel
theorem dX6_harvest_116 : decode cX6_harvest 116 = .ok (.isub, 1) := by decide +kernel
theorem dX6_harvest_117 : decode cX6_harvest 117 = .ok (.iastore, 1) := by decide +kernel
theorem dX6_harvest_118 : decode cX6_harvest 118 = .ok (.aload_n 3, 1) := by decide +kernel
theorem dX6_harvest_119 : decode cX6_harvest 119 = .ok (.bipush 6, 2) := by decide +kernel
theorem dX6_harvest_121 : decode cX6_harvest 121 = .ok (.dup2, 1) := by decide +kernel
theorem dX6_harvest_122 : decode cX6_harvest 122 = .ok (.iaload, 1) := by decide +kernel
theorem dX6_harvest_123 : decode cX6_harvest 123 = .ok (.iload 4, 2) := by decide +kernel
theorem dX6_harvest_125 : decode cX6_harvest 125 = .ok (.iadd, 1) := by decide +kernel
theorem dX6_harvest_126 : decode cX6_harvest 126 = .ok (.iastore, 1) := by decide +kernel
theorem dX6_harvest_127 : decode cX6_harvest 127 = .ok (.aload_n 2, 1) := by decide +kernel
theorem dX6_harvest_128 : decode cX6_harvest 128 = .ok (.iconst 1, 1) := by decide +kernel
theorem dX6_harvest_129 : decode cX6_harvest 129 = .ok (.dup2, 1) := by decide +kernel
theorem dX6_harvest_130 : decode cX6_harvest 130 = .ok (.iaload, 1) := by decide +kernel
theorem dX6_harvest_131 : decode cX6_harvest 131 = .ok (.iconst 2, 1) := by decide +kernel
theorem dX6_harvest_132 : decode cX6_harvest 132 = .ok (.aload_n 0, 1) := by decide +kernel
theorem dX6_harvest_133 : decode cX6_harvest 133 = .ok (.getfield 23, 3) := by decide +kernel
theorem dX6_harvest_136 : decode cX6_harvest 136 = .ok (.iload_n 1, 1) := by decide +kernel
theorem dX6_harvest_137 : decode cX6_harvest 137 = .ok (.aaload, 1) := by decide +kernel
theorem dX6_harvest_138 : decode cX6_harvest 138 = .ok (.iconst 2, 1) := by decide +kernel
theorem dX6_harvest_139 : decode cX6_harvest 139 = .ok (.iaload, 1) := by decide +kernel
theorem dX6_harvest_140 : decode cX6_harvest 140 = .ok (.iload 4, 2) := by decide +kernel
theorem dX6_harvest_142 : decode cX6_harvest 142 = .ok (.isub, 1) := by decide +kernel
theorem dX6_harvest_143 : decode cX6_harvest 143 = .ok (.imul, 1) := by decide +kernel
theorem dX6_harvest_144 : decode cX6_harvest 144 = .ok (.isub, 1) := by decide +kernel
theorem dX6_harvest_145 : decode cX6_harvest 145 = .ok (.iastore, 1) := by decide +kernel
theorem dX6_harvest_146 : decode cX6_harvest 146 = .ok (.aload_n 3, 1) := by decide +kernel
theorem dX6_harvest_147 : decode cX6_harvest 147 = .ok (.iconst 1, 1) := by decide +kernel
theorem dX6_harvest_148 : decode cX6_harvest 148 = .ok (.dup2, 1) := by decide +kernel
theorem dX6_harvest_149 : decode cX6_harvest 149 = .ok (.iaload, 1) := by decide +kernel
theorem dX6_harvest_150 : decode cX6_harvest 150 = .ok (.iconst 2, 1) := by decide +kernel
theorem dX6_harvest_151 : decode cX6_harvest 151 = .ok (.aload_n 0, 1) := by decide +kernel
theorem dX6_harvest_152 : decode cX6_harvest 152 = .ok (.getfield 23, 3) := by decide +kernel
theorem dX6_harvest_155 : decode cX6_harvest 155 = .ok (.iload_n 1, 1) := by decide +kernel
theorem dX6_harvest_156 : decode cX6_harvest 156 = .ok (.aaload, 1) := by decide +kernel
theorem dX6_harvest_157 : decode cX6_harvest 157 = .ok (.iconst 2, 1) := by decide +kernel
theorem dX6_harvest_158 : decode cX6_harvest 158 = .ok (.iaload, 1) := by decide +kernel
theorem dX6_harvest_159 : decode cX6_harvest 159 = .ok (.iload 4, 2) := by decide +kernel
theorem dX6_harvest_161 : decode cX6_harvest 161 = .ok (.isub, 1) := by decide +kernel
theorem dX6_harvest_162 : decode cX6_harvest 162 = .ok (.imul, 1) := by decide +kernel
theorem dX6_harvest_163 : decode cX6_harvest 163 = .ok (.iadd, 1) := by decide +kernel
theorem dX6_harvest_164 : decode cX6_harvest 164 = .ok (.iastore, 1) := by decide +kernel
theorem dX6_harvest_165 : decode cX6_harvest 165 = .ok (.iinc 1 1, 3) := by decide +kernel
theorem dX6_harvest_168 : decode cX6_harvest 168 = .ok (.goto (-112), 3) := by decide +kernel
theorem dX6_harvest_171 : decode cX6_harvest 171 = .ok (.aload_n 0, 1) := by decide +kernel
theorem dX6_harvest_172 : decode cX6_harvest 172 = .ok (.iconst 0, 1) := by decide +kernel
theorem dX6_harvest_173 : decode cX6_harvest 173 = .ok (.putfield 49, 3) := by decide +kernel
theorem dX6_harvest_176 : decode cX6_harvest 176 = .ok (.iconst 0, 1) := by decide +kernel
theorem dX6_harvest_177 : decode cX6_harvest 177 = .ok (.istore_n 1, 1) := by decide +kernel
theorem dX6_harvest_178 : decode cX6_harvest 178 = .ok (.iload_n 1, 1) := by decide +kernel
theorem dX6_harvest_179 : decode cX6_harvest 179 = .ok (.aload_n 0, 1) := by decide +kernel
theorem dX6_harvest_180 : decode cX6_harvest 180 = .ok (.getfield 52, 3) := by decide +kernel
theorem dX6_harvest_183 : decode cX6_harvest 183 = .ok (.if_icmp .ge 39, 3) := by decide +kernel
theorem dX6_harvest_186 : decode cX6_harvest 186 = .ok (.aload_n 0, 1) := by decide +kernel
theorem dX6_harvest_187 : decode cX6_harvest 187 = .ok (.getfield 11, 3) := by decide +kernel
theorem dX6_harvest_190 : decode cX6_harvest 190 = .ok (.aload_n 0, 1) := by decide +kernel
theorem dX6_harvest_191 : decode cX6_harvest 191 = .ok (.getfield 16, 3) := by decide +kernel
theorem dX6_harvest_194 : decode cX6_harvest 194 = .ok (.iload_n 1, 1) := by decide +kernel
theorem dX6_harvest_195 : decode cX6_harvest 195 = .ok (.iaload, 1) := by decide +kernel
theorem dX6_harvest_196 : decode cX6_harvest 196 = .ok (.aaload, 1) := by decide +kernel
theorem dX6_harvest_197 : decode cX6_harvest 197 = .ok (.bipush 7, 2) := by decide +kernel
theorem dX6_harvest_199 : decode cX6_harvest 199 = .ok (.iconst 0, 1) := by decide +kernel
theorem dX6_harvest_200 : decode cX6_harvest 200 = .ok (.iastore, 1) := by decide +kernel
theorem dX6_harvest_201 : decode cX6_harvest 201 = .ok (.aload_n 0, 1) := by decide +kernel
theorem dX6_harvest_202 : decode cX6_harvest 202 = .ok (.getfield 11, 3) := by decide +kernel
theorem dX6_harvest_205 : decode cX6_harvest 205 = .ok (.aload_n 0, 1) := by decide +kernel
theorem dX6_harvest_206 : decode cX6_harvest 206 = .ok (.getfield 16, 3) := by decide +kernel
theorem dX6_harvest_209 : decode cX6_harvest 209 = .ok (.iload_n 1, 1) := by decide +kernel
theorem dX6_harvest_210 : decode cX6_harvest 210 = .ok (.iaload, 1) := by decide +kernel
theorem dX6_harvest_211 : decode cX6_harvest 211 = .ok (.aaload, 1) := by decide +kernel
theorem dX6_harvest_212 : decode cX6_harvest 212 = .ok (.bipush 8, 2) := by decide +kernel
theorem dX6_harvest_214 : decode cX6_harvest 214 = .ok (.iconst 0, 1) := by decide +kernel
theorem dX6_harvest_215 : decode cX6_harvest 215 = .ok (.iastore, 1) := by decide +kernel
theorem dX6_harvest_216 : decode cX6_harvest 216 = .ok (.iinc 1 1, 3) := by decide +kernel
theorem dX6_harvest_219 : decode cX6_harvest 219 = .ok (.goto (-41), 3) := by decide +kernel
theorem dX6_harvest_222 : decode cX6_harvest 222 = .ok (.return_, 1) := by decide +kernel
theorem dX6_age_0 : decode cX6_age 0 = .ok (.iconst 0, 1) := by decide +kernel
theorem dX6_age_1 : decode cX6_age 1 = .ok (.istore_n 1, 1) := by decide +kernel
theorem dX6_age_2 : decode cX6_age 2 = .ok (.iconst 0, 1) := by decide +kernel
theorem dX6_age_3 : decode cX6_age 3 = .ok (.istore_n 2, 1) := by decide +kernel
theorem dX6_age_4 : decode cX6_age 4 = .ok (.iload_n 2, 1) := by decide +kernel
theorem dX6_age_5 : decode cX6_age 5 = .ok (.aload_n 0, 1) := by decide +kernel
theorem dX6_age_6 : decode cX6_age 6 = .ok (.getfield 46, 3) := by decide +kernel
theorem dX6_age_9 : decode cX6_age 9 = .ok (.if_icmp .ge 52, 3) := by decide +kernel
theorem dX6_age_12 : decode cX6_age 12 = .ok (.aload_n 0, 1) := by decide +kernel
theorem dX6_age_13 : decode cX6_age 13 = .ok (.getfield 20, 3) := by decide +kernel
theorem dX6_age_16 : decode cX6_age 16 = .ok (.iload_n 2, 1) := by decide +kernel
theorem dX6_age_17 : decode cX6_age 17 = .ok (.aaload, 1) := by decide +kernel
theorem dX6_age_18 : decode cX6_age 18 = .ok (.astore_n 3, 1) := by decide +kernel
theorem dX6_age_19 : decode cX6_age 19 = .ok (.aload_n 3, 1) := by decide +kernel
theorem dX6_age_20 : decode cX6_age 20 = .ok (.iconst 3, 1) := by decide +kernel
theorem dX6_age_21 : decode cX6_age 21 = .ok (.dup2, 1) := by decide +kernel
theorem dX6_age_22 : decode cX6_age 22 = .ok (.iaload, 1) := by decide +kernel
theorem dX6_age_23 : decode cX6_age 23 = .ok (.iconst 1, 1) := by decide +kernel
theorem dX6_age_24 : decode cX6_age 24 = .ok (.isub, 1) := by decide +kernel
theorem dX6_age_25 : decode cX6_age 25 = .ok (.dup_x2, 1) := by decide +kernel
theorem dX6_age_26 : decode cX6_age 26 = .ok (.iastore, 1) := by decide +kernel
theorem dX6_age_27 : decode cX6_age 27 = .ok (.ifCond .ne 6, 3) := by decide +kernel
theorem dX6_age_30 : decode cX6_age 30 = .ok (.goto 25, 3) := by decide +kernel
theorem dX6_age_33 : decode cX6_age 33 = .ok (.aload_n 0, 1) := by decide +kernel
theorem dX6_age_34 : decode cX6_age 34 = .ok (.getfield 20, 3) := by decide +kernel
theorem dX6_age_37 : decode cX6_age 37 = .ok (.iload_n 2, 1) := by decide +kernel
theorem dX6_age_38 : decode cX6_age 38 = .ok (.aload_n 0, 1) := by decide +kernel
theorem dX6_age_39 : decode cX6_age 39 = .ok (.getfield 20, 3) := by decide +kernel
theorem dX6_age_42 : decode cX6_age 42 = .ok (.iload_n 1, 1) := by decide +kernel
theorem dX6_age_43 : decode cX6_age 43 = .ok (.aaload, 1) := by decide +kernel
theorem dX6_age_44 : decode cX6_age 44 = .ok (.aastore, 1) := by decide +kernel
theorem dX6_age_45 : decode cX6_age 45 = .ok (.aload_n 0, 1) := by decide +kernel
theorem dX6_age_46 : decode cX6_age 46 = .ok (.getfield 20, 3) := by decide +kernel
theorem dX6_age_49 : decode cX6_age 49 = .ok (.iload_n 1, 1) := by decide +kernel
theorem dX6_age_50 : decode cX6_age 50 = .ok (.iinc 1 1, 3) := by decide +kernel
theorem dX6_age_53 : decode cX6_age 53 = .ok (.aload_n 3, 1) := by decide +kernel
theorem dX6_age_54 : decode cX6_age 54 = .ok (.aastore, 1) := by decide +kernel
theorem dX6_age_55 : decode cX6_age 55 = .ok (.iinc 2 1, 3) := by decide +kernel
theorem dX6_age_58 : decode cX6_age 58 = .ok (.goto (-54), 3) := by decide +kernel
theorem dX6_age_61 : decode cX6_age 61 = .ok (.aload_n 0, 1) := by decide +kernel
theorem dX6_age_62 : decode cX6_age 62 = .ok (.iload_n 1, 1) := by decide +kernel
theorem dX6_age_63 : decode cX6_age 63 = .ok (.putfield 46, 3) := by decide +kernel
theorem dX6_age_66 : decode cX6_age 66 = .ok (.return_, 1) := by decide +kernel
theorem dX6_run_0 : decode cX6_run 0 = .ok (.iconst 0, 1) := by decide +kernel
theorem dX6_run_1 : decode cX6_run 1 = .ok (.istore_n 3, 1) := by decide +kernel
theorem dX6_run_2 : decode cX6_run 2 = .ok (.iconst 0, 1) := by decide +kernel
theorem dX6_run_3 : decode cX6_run 3 = .ok (.istore 4, 2) := by decide +kernel
theorem dX6_run_5 : decode cX6_run 5 = .ok (.iload 4, 2) := by decide +kernel
theorem dX6_run_7 : decode cX6_run 7 = .ok (.iload_n 2, 1) := by decide +kernel
theorem dX6_run_8 : decode cX6_run 8 = .ok (.if_icmp .ge 17, 3) := by decide +kernel
theorem dX6_run_11 : decode cX6_run 11 = .ok (.iload_n 3, 1) := by decide +kernel
theorem dX6_run_12 : decode cX6_run 12 = .ok (.aload_n 0, 1) := by decide +kernel
theorem dX6_run_13 : decode cX6_run 13 = .ok (.iload_n 1, 1) := by decide +kernel
theorem dX6_run_14 : decode cX6_run 14 = .ok (.invokevirtual 116, 3) := by decide +kernel
theorem dX6_run_17 : decode cX6_run 17 = .ok (.iadd, 1) := by decide +kernel
theorem dX6_run_18 : decode cX6_run 18 = .ok (.istore_n 3, 1) := by decide +kernel
theorem dX6_run_19 : decode cX6_run 19 = .ok (.iinc 4 1, 3) := by decide +kernel
theorem dX6_run_22 : decode cX6_run 22 = .ok (.goto (-17), 3) := by decide +kernel
theorem dX6_run_25 : decode cX6_run 25 = .ok (.iload_n 3, 1) := by decide +kernel
theorem dX6_run_26 : decode cX6_run 26 = .ok (.ireturn, 1) := by decide +kernel
theorem dX7_init_0 : decode cX7_init 0 = .ok (.aload_n 0, 1) := by decide +kernel
theorem dX7_init_1 : decode cX7_init 1 = .ok (.invokespecial 1, 3) := by decide +kernel
theorem dX7_init_4 : decode cX7_init 4 = .ok (.aload_n 0, 1) := by decide +kernel
theorem dX7_init_5 : decode cX7_init 5 = .ok (.new 7, 3) := by decide +kernel
theorem dX7_init_8 : decode cX7_init 8 = .ok (.dup, 1) := by decide +kernel
theorem dX7_init_9 : decode cX7_init 9 = .ok (.invokespecial 9, 3) := by decide +kernel
theorem dX7_init_12 : decode cX7_init 12 = .ok (.putfield 10, 3) := by decide +kernel
theorem dX7_init_15 : decode cX7_init 15 = .ok (.return_, 1) := by decide +kernel
theorem dX7_thrown_0 : decode cX7_thrown 0 = .ok (.aload_n 0, 1) := by decide +kernel
theorem dX7_thrown_1 : decode cX7_thrown 1 = .ok (.getfield 16, 3) := by decide +kernel
theorem dX7_thrown_4 : decode cX7_thrown 4 = .ok (.ireturn, 1) := by decide +kernel
theorem dX7_no_0 : decode cX7_no 0 = .ok (.aload_n 0, 1) := by decide +kernel
theorem dX7_no_1 : decode cX7_no 1 = .ok (.iload_n 1, 1) := by decide +kernel
theorem dX7_no_2 : decode cX7_no 2 = .ok (.putfield 16, 3) := by decide +kernel
theorem dX7_no_5 : decode cX7_no 5 = .ok (.iconst 0, 1) := by decide +kernel
theorem dX7_no_6 : decode cX7_no 6 = .ok (.ireturn, 1) := by decide +kernel
theorem dX7_in_0 : decode cX7_in 0 = .ok (.iload_n 0, 1) := by decide +kernel
theorem dX7_in_1 : decode cX7_in 1 = .ok (.iload_n 1, 1) := by decide +kernel
theorem dX7_in_2 : decode cX7_in 2 = .ok (.if_icmp .lt 12, 3) := by decide +kernel
theorem dX7_in_5 : decode cX7_in 5 = .ok (.iload_n 0, 1) := by decide +kernel
theorem dX7_in_6 : decode cX7_in 6 = .ok (.iload_n 2, 1) := by decide +kernel
theorem dX7_in_7 : decode cX7_in 7 = .ok (.if_icmp .gt 7, 3) := by decide +kernel
theorem dX7_in_10 : decode cX7_in 10 = .ok (.iconst 1, 1) := by decide +kernel
theorem dX7_in_11 : decode cX7_in 11 = .ok (.goto 4, 3) := by decide +kernel
theorem dX7_in_14 : decode cX7_in 14 = .ok (.iconst 0, 1) := by decide +kernel
theorem dX7_in_15 : decode cX7_in 15 = .ok (.ireturn, 1) := by decide +kernel
theorem dX7_lower_0 : decode cX7_lower 0 = .ok (.iload_n 0, 1) := by decide +kernel
theorem dX7_lower_1 : decode cX7_lower 1 = .ok (.ifCond .lt 9, 3) := by decide +kernel
theorem dX7_lower_4 : decode cX7_lower 4 = .ok (.iload_n 0, 1) := by decide +kernel
theorem dX7_lower_5 : decode cX7_lower 5 = .ok (.iload_n 1, 1) := by decide +kernel
theorem dX7_lower_6 : decode cX7_lower 6 = .ok (.idiv, 1) := by decide +kernel
theorem dX7_lower_7 : decode cX7_lower 7 = .ok (.goto 11, 3) := by decide +kernel
theorem dX7_lower_10 : decode cX7_lower 10 = .ok (.iload_n 1, 1) := by decide +kernel
theorem dX7_lower_11 : decode cX7_lower 11 = .ok (.iconst 1, 1) := by decide +kernel
theorem dX7_lower_12 : decode cX7_lower 12 = .ok (.isub, 1) := by decide +kernel
theorem dX7_lower_13 : decode cX7_lower 13 = .ok (.iload_n 0, 1) := by decide +kernel
theorem dX7_lower_14 : decode cX7_lower 14 = .ok (.isub, 1) := by decide +kernel
theorem dX7_lower_15 : decode cX7_lower 15 = .ok (.iload_n 1, 1) := by decide +kernel
theorem dX7_lower_16 : decode cX7_lower 16 = .ok (.idiv, 1) := by decide +kernel
theorem dX7_lower_17 : decode cX7_lower 17 = .ok (.ineg, 1) := by decide +kernel
theorem dX7_lower_18 : decode cX7_lower 18 = .ok (.ireturn, 1) := by decide +kernel
theorem dX7_lives_0 : decode cX7_lives 0 = .ok (.iload_n 1, 1) := by decide +kernel
theorem dX7_lives_1 : decode cX7_lives 1 = .ok (.iconst 0, 1) := by decide +kernel
theorem dX7_lives_2 : decode cX7_lives 2 = .ok (.aload_n 0, 1) := by decide +kernel
theorem dX7_lives_3 : decode cX7_lives 3 = .ok (.getfield 10, 3) := by decide +kernel
theorem dX7_lives_6 : decode cX7_lives 6 = .ok (.getfield 20, 3) := by decide +kernel
theorem dX7_lives_9 : decode cX7_lives 9 = .ok (.iconst 1, 1) := by decide +kernel
theorem dX7_lives_10 : decode cX7_lives 10 = .ok (.isub, 1) := by decide +kernel
theorem dX7_lives_11 : decode cX7_lives 11 = .ok (.invokestatic 23, 3) := by decide +kernel
theorem dX7_lives_14 : decode cX7_lives 14 = .ok (.ifCond .eq 23, 3) := by decide +kernel
theorem dX7_lives_17 : decode cX7_lives 17 = .ok (.aload_n 0, 1) := by decide +kernel
theorem dX7_lives_18 : decode cX7_lives 18 = .ok (.getfield 10, 3) := by decide +kernel
theorem dX7_lives_21 : decode cX7_lives 21 = .ok (.getfield 27, 3) := by decide +kernel
theorem dX7_lives_24 : decode cX7_lives 24 = .ok (.iload_n 1, 1) := by decide +kernel
theorem dX7_lives_25 : decode cX7_lives 25 = .ok (.aaload, 1) := by decide +kernel
theorem dX7_lives_26 : decode cX7_lives 26 = .ok (.bipush 11, 2) := by decide +kernel
theorem dX7_lives_28 : decode cX7_lives 28 = .ok (.iaload, 1) := by decide +kernel
theorem dX7_lives_29 : decode cX7_lives 29 = .ok (.iconst 1, 1) := by decide +kernel
theorem dX7_lives_30 : decode cX7_lives 30 = .ok (.if_icmp .ne 7, 3) := by decide +kernel
theorem dX7_lives_33 : decode cX7_lives 33 = .ok (.iconst 1, 1) := by decide +kernel
theorem dX7_lives_34 : decode cX7_lives 34 = .ok (.goto 4, 3) := by decide +kernel
theorem dX7_lives_37 : decode cX7_lives 37 = .ok (.iconst 0, 1) := by decide +kernel
theorem dX7_lives_38 : decode cX7_lives 38 = .ok (.ireturn, 1) := by decide +kernel
theorem dX7_at_0 : decode cX7_at 0 = .ok (.aload_n 0, 1) := by decide +kernel
theorem dX7_at_1 : decode cX7_at 1 = .ok (.getfield 10, 3) := by decide +kernel
theorem dX7_at_4 : decode cX7_at 4 = .ok (.getfield 27, 3) := by decide +kernel
theorem dX7_at_7 : decode cX7_at 7 = .ok (.iload_n 1, 1) := by decide +kernel
theorem dX7_at_8 : decode cX7_at 8 = .ok (.aaload, 1) := by decide +kernel
theorem dX7_at_9 : decode cX7_at 9 = .ok (.areturn, 1) := by decide +kernel
theorem dX7_owner_0 : decode cX7_owner 0 = .ok (.aload_n 0, 1) := by decide +kernel
theorem dX7_owner_1 : decode cX7_owner 1 = .ok (.iconst 0, 1) := by decide +kernel
theorem dX7_owner_2 : decode cX7_owner 2 = .ok (.putfield 16, 3) := by decide +kernel
theorem dX7_owner_5 : decode cX7_owner 5 = .ok (.iload_n 1, 1) := by decide +kernel
theorem dX7_owner_6 : decode cX7_owner 6 = .ok (.iconst 0, 1) := by decide +kernel
theorem dX7_owner_7 : decode cX7_owner 7 = .ok (.sipush 5040, 3) := by decide +kernel
theorem dX7_owner_10 : decode cX7_owner 10 = .ok (.invokestatic 23, 3) := by decide +kernel
theorem dX7_owner_13 : decode cX7_owner 13 = .ok (.ifCond .eq 36, 3) := by decide +kernel
theorem dX7_owner_16 : decode cX7_owner 16 = .ok (.iload_n 2, 1) := by decide +kernel
theorem dX7_owner_17 : decode cX7_owner 17 = .ok (.iconst 0, 1) := by decide +kernel
theorem dX7_owner_18 : decode cX7_owner 18 = .ok (.sipush 9999, 3) := by decide +kernel
theorem dX7_owner_21 : decode cX7_owner 21 = .ok (.invokestatic 23, 3) := by decide +kernel
theorem dX7_owner_24 : decode cX7_owner 24 = .ok (.ifCond .eq 25, 3) := by decide +kernel
theorem dX7_owner_27 : decode cX7_owner 27 = .ok (.iload_n 3, 1) := by decide +kernel
theorem dX7_owner_28 : decode cX7_owner 28 = .ok (.iconst 0, 1) := by decide +kernel
theorem dX7_owner_29 : decode cX7_owner 29 = .ok (.sipush 200, 3) := by decide +kernel
theorem dX7_owner_32 : decode cX7_owner 32 = .ok (.invokestatic 23, 3) := by decide +kernel
theorem dX7_owner_35 : decode cX7_owner 35 = .ok (.ifCond .eq 14, 3) := by decide +kernel
theorem dX7_owner_38 : decode cX7_owner 38 = .ok (.iload 4, 2) := by decide +kernel
theorem dX7_owner_40 : decode cX7_owner 40 = .ok (.iconst 0, 1) := by decide +kernel
theorem dX7_owner_41 : decode cX7_owner 41 = .ok (.bipush 20, 2) := by decide +kernel
theorem dX7_owner_43 : decode cX7_owner 43 = .ok (.invokestatic 23, 3) := by decide +kernel
theorem dX7_owner_46 : decode cX7_owner 46 = .ok (.ifCond .ne 9, 3) := by decide +kernel
theorem dX7_owner_49 : decode cX7_owner 49 = .ok (.aload_n 0, 1) := by decide +kernel
theorem dX7_owner_50 : decode cX7_owner 50 = .ok (.iconst 1, 1) := by decide +kernel
theorem dX7_owner_51 : decode cX7_owner 51 = .ok (.invokevirtual 31, 3) := by decide +kernel
theorem dX7_owner_54 : decode cX7_owner 54 = .ok (.ireturn, 1) := by decide +kernel
theorem dX7_owner_55 : decode cX7_owner 55 = .ok (.aload_n 0, 1) := by decide +kernel
theorem dX7_owner_56 : decode cX7_owner 56 = .ok (.getfield 10, 3) := by decide +kernel
theorem dX7_owner_59 : decode cX7_owner 59 = .ok (.getfield 20, 3) := by decide +kernel
theorem dX7_owner_62 : decode cX7_owner 62 = .ok (.bipush 10, 2) := by decide +kernel
theorem dX7_owner_64 : decode cX7_owner 64 = .ok (.if_icmp .eq 18, 3) := by decide +kernel
theorem dX7_owner_67 : decode cX7_owner 67 = .ok (.iload_n 1, 1) := by decide +kernel
theorem dX7_owner_68 : decode cX7_owner 68 = .ok (.sipush 5040, 3) := by decide +kernel
theorem dX7_owner_71 : decode cX7_owner 71 = .ok (.aload_n 0, 1) := by decide +kernel
theorem dX7_owner_72 : decode cX7_owner 72 = .ok (.getfield 10, 3) := by decide +kernel
theorem dX7_owner_75 : decode cX7_owner 75 = .ok (.invokevirtual 35, 3) := by decide +kernel
theorem dX7_owner_78 : decode cX7_owner 78 = .ok (.isub, 1) := by decide +kernel
theorem dX7_owner_79 : decode cX7_owner 79 = .ok (.if_icmp .le 9, 3) := by decide +kernel
theorem dX7_owner_82 : decode cX7_owner 82 = .ok (.aload_n 0, 1) := by decide +kernel
theorem dX7_owner_83 : decode cX7_owner 83 = .ok (.iconst 2, 1) := by decide +kernel
theorem dX7_owner_84 : decode cX7_owner 84 = .ok (.invokevirtual 31, 3) := by decide +kernel
theorem dX7_owner_87 : decode cX7_owner 87 = .ok (.ireturn, 1) := by decide +kernel
theorem dX7_owner_88 : decode cX7_owner 88 = .ok (.bipush 12, 2) := by decide +kernel
theorem dX7_owner_90 : decode cX7_owner 90 = .ok (.newarray .int, 2) := by decide +kernel
theorem dX7_owner_92 : decode cX7_owner 92 = .ok (.dup, 1) := by decide +kernel
theorem dX7_owner_93 : decode cX7_owner 93 = .ok (.iconst 0, 1) := by decide +kernel
theorem dX7_owner_94 : decode cX7_owner 94 = .ok (.iload_n 1, 1) := by decide +kernel
theorem dX7_owner_95 : decode cX7_owner 95 = .ok (.iastore, 1) := by decide +kernel
theorem dX7_owner_96 : decode cX7_owner 96 = .ok (.dup, 1) := by decide +kernel
theorem dX7_owner_97 : decode cX7_owner 97 = .ok (.iconst 1, 1) := by decide +kernel
theorem dX7_owner_98 : decode cX7_owner 98 = .ok (.iload_n 2, 1) := by decide +kernel
theorem dX7_owner_99 : decode cX7_owner 99 = .ok (.iastore, 1) := by decide +kernel
theorem dX7_owner_100 : decode cX7_owner 100 = .ok (.dup, 1) := by decide +kernel
theorem dX7_owner_101 : decode cX7_owner 101 = .ok (.iconst 2, 1) := by decide +kernel
theorem dX7_owner_102 : decode cX7_owner 102 = .ok (.iload_n 3, 1) := by decide +kernel
theorem dX7_owner_103 : decode cX7_owner 103 = .ok (.iastore, 1) := by decide +kernel
theorem dX7_owner_104 : decode cX7_owner 104 = .ok (.dup, 1) := by decide +kernel
theorem dX7_owner_105 : decode cX7_owner 105 = .ok (.iconst 3, 1) := by decide +kernel
theorem dX7_owner_106 : decode cX7_owner 106 = .ok (.iload 4, 2) := by decide +kernel
theorem dX7_owner_108 : decode cX7_owner 108 = .ok (.iastore, 1) := by decide +kernel
theorem dX7_owner_109 : decode cX7_owner 109 = .ok (.dup, 1) := by decide +kernel
theorem dX7_owner_110 : decode cX7_owner 110 = .ok (.iconst 4, 1) := by decide +kernel
theorem dX7_owner_111 : decode cX7_owner 111 = .ok (.bipush 50, 2) := by decide +kernel
theorem dX7_owner_113 : decode cX7_owner 113 = .ok (.iastore, 1) := by decide +kernel
theorem dX7_owner_114 : decode cX7_owner 114 = .ok (.dup, 1) := by decide +kernel
theorem dX7_owner_115 : decode cX7_owner 115 = .ok (.iconst 5, 1) := by decide +kernel
theorem dX7_owner_116 : decode cX7_owner 116 = .ok (.iconst 0, 1) := by decide +kernel
theorem dX7_owner_117 : decode cX7_owner 117 = .ok (.iastore, 1) := by decide +kernel
theorem dX7_owner_118 : decode cX7_owner 118 = .ok (.dup, 1) := by decide +kernel
theorem dX7_owner_119 : decode cX7_owner 119 = .ok (.bipush 6, 2) := by decide +kernel
theorem dX7_owner_121 : decode cX7_owner 121 = .ok (.iconst 0, 1) := by decide +kernel
theorem dX7_owner_122 : decode cX7_owner 122 = .ok (.iastore, 1) := by decide +kernel
theorem dX7_owner_123 : decode cX7_owner 123 = .ok (.dup, 1) := by decide +kernel
theorem dX7_owner_124 : decode cX7_owner 124 = .ok (.bipush 7, 2) := by decide +kernel
theorem dX7_owner_126 : decode cX7_owner 126 = .ok (.iconst 0, 1) := by decide +kernel
theorem dX7_owner_127 : decode cX7_owner 127 = .ok (.iastore, 1) := by decide +kernel
theorem dX7_owner_128 : decode cX7_owner 128 = .ok (.dup, 1) := by decide +kernel
theorem dX7_owner_129 : decode cX7_owner 129 = .ok (.bipush 8, 2) := by decide +kernel
theorem dX7_owner_131 : decode cX7_owner 131 = .ok (.iconst 0, 1) := by decide +kernel
theorem dX7_owner_132 : decode cX7_owner 132 = .ok (.iastore, 1) := by decide +kernel
theorem dX7_owner_133 : decode cX7_owner 133 = .ok (.dup, 1) := by decide +kernel
theorem dX7_owner_134 : decode cX7_owner 134 = .ok (.bipush 9, 2) := by decide +kernel
theorem dX7_owner_136 : decode cX7_owner 136 = .ok (.iconst 0, 1) := by decide +kernel
theorem dX7_owner_137 : decode cX7_owner 137 = .ok (.iastore, 1) := by decide +kernel
theorem dX7_owner_138 : decode cX7_owner 138 = .ok (.dup, 1) := by decide +kernel
theorem dX7_owner_139 : decode cX7_owner 139 = .ok (.bipush 10, 2) := by decide +kernel
theorem dX7_owner_141 : decode cX7_owner 141 = .ok (.iconst 0, 1) := by decide +kernel
theorem dX7_owner_142 : decode cX7_owner 142 = .ok (.iastore, 1) := by decide +kernel
theorem dX7_owner_143 : decode cX7_owner 143 = .ok (.dup, 1) := by decide +kernel
theorem dX7_owner_144 : decode cX7_owner 144 = .ok (.bipush 11, 2) := by decide +kernel
theorem dX7_owner_146 : decode cX7_owner 146 = .ok (.iconst 1, 1) := by decide +kernel
theorem dX7_owner_147 : decode cX7_owner 147 = .ok (.iastore, 1) := by decide +kernel
theorem dX7_owner_148 : decode cX7_owner 148 = .ok (.astore 5, 2) := by decide +kernel
theorem dX7_owner_150 : decode cX7_owner 150 = .ok (.aload 5, 2) := by decide +kernel
theorem dX7_owner_152 : decode cX7_owner 152 = .ok (.iconst 0, 1) := by decide +kernel
theorem dX7_owner_153 : decode cX7_owner 153 = .ok (.aload_n 0, 1) := by decide +kernel
theorem dX7_owner_154 : decode cX7_owner 154 = .ok (.aload_n 0, 1) := by decide +kernel
theorem dX7_owner_155 : decode cX7_owner 155 = .ok (.getfield 10, 3) := by decide +kernel
theorem dX7_owner_158 : decode cX7_owner 158 = .ok (.getfield 20, 3) := by decide +kernel
theorem dX7_owner_161 : decode cX7_owner 161 = .ok (.invokevirtual 39, 3) := by decide +kernel
theorem dX7_owner_164 : decode cX7_owner 164 = .ok (.iconst 0, 1) := by decide +kernel
theorem dX7_owner_165 : decode cX7_owner 165 = .ok (.bipush 12, 2) := by decide +kernel
theorem dX7_owner_167 : decode cX7_owner 167 = .ok (.invokestatic 43, 3) := by decide +kernel
theorem dX7_owner_170 : decode cX7_owner 170 = .ok (.aload_n 0, 1) := by decide +kernel
theorem dX7_owner_171 : decode cX7_owner 171 = .ok (.getfield 10, 3) := by decide +kernel
theorem dX7_owner_174 : decode cX7_owner 174 = .ok (.getfield 49, 3) := by decide +kernel
theorem dX7_owner_177 : decode cX7_owner 177 = .ok (.aload_n 0, 1) := by decide +kernel
theorem dX7_owner_178 : decode cX7_owner 178 = .ok (.getfield 10, 3) := by decide +kernel
theorem dX7_owner_181 : decode cX7_owner 181 = .ok (.dup, 1) := by decide +kernel
theorem dX7_owner_182 : decode cX7_owner 182 = .ok (.getfield 53, 3) := by decide +kernel
theorem dX7_owner_185 : decode cX7_owner 185 = .ok (.dup_x1, 1) := by decide +kernel
theorem dX7_owner_186 : decode cX7_owner 186 = .ok (.iconst 1, 1) := by decide +kernel
theorem dX7_owner_187 : decode cX7_owner 187 = .ok (.iadd, 1) := by decide +kernel
theorem dX7_owner_188 : decode cX7_owner 188 = .ok (.putfield 53, 3) := by decide +kernel
theorem dX7_owner_191 : decode cX7_owner 191 = .ok (.aload_n 0, 1) := by decide +kernel
theorem dX7_owner_192 : decode cX7_owner 192 = .ok (.getfield 10, 3) := by decide +kernel
theorem dX7_owner_195 : decode cX7_owner 195 = .ok (.getfield 20, 3) := by decide +kernel
theorem dX7_owner_198 : decode cX7_owner 198 = .ok (.iastore, 1) := by decide +kernel
theorem dX7_owner_199 : decode cX7_owner 199 = .ok (.aload_n 0, 1) := by decide +kernel
theorem dX7_owner_200 : decode cX7_owner 200 = .ok (.getfield 10, 3) := by decide +kernel
theorem dX7_owner_203 : decode cX7_owner 203 = .ok (.dup, 1) := by decide +kernel
theorem dX7_owner_204 : decode cX7_owner 204 = .ok (.getfield 20, 3) := by decide +kernel
theorem dX7_owner_207 : decode cX7_owner 207 = .ok (.dup_x1, 1) := by decide +kernel
theorem dX7_owner_208 : decode cX7_owner 208 = .ok (.iconst 1, 1) := by decide +kernel
theorem dX7_owner_209 : decode cX7_owner 209 = .ok (.iadd, 1) := by decide +kernel
theorem dX7_owner_210 : decode cX7_owner 210 = .ok (.putfield 20, 3) := by decide +kernel
theorem dX7_owner_213 : decode cX7_owner 213 = .ok (.ireturn, 1) := by decide +kernel
theorem dX7_sell_0 : decode cX7_sell 0 = .ok (.aload_n 0, 1) := by decide +kernel
theorem dX7_sell_1 : decode cX7_sell 1 = .ok (.iconst 0, 1) := by decide +kernel
theorem dX7_sell_2 : decode cX7_sell 2 = .ok (.putfield 16, 3) := by decide +kernel
theorem dX7_sell_5 : decode cX7_sell 5 = .ok (.aload_n 0, 1) := by decide +kernel
theorem dX7_sell_6 : decode cX7_sell 6 = .ok (.iload_n 1, 1) := by decide +kernel
theorem dX7_sell_7 : decode cX7_sell 7 = .ok (.invokevirtual 56, 3) := by decide +kernel
theorem dX7_sell_10 : decode cX7_sell 10 = .ok (.ifCond .eq 11, 3) := by decide +kernel
theorem dX7_sell_13 : decode cX7_sell 13 = .ok (.aload_n 0, 1) := by decide +kernel
theorem dX7_sell_14 : decode cX7_sell 14 = .ok (.iload_n 2, 1) := by decide +kernel
theorem dX7_sell_15 : decode cX7_sell 15 = .ok (.invokevirtual 56, 3) := by decide +kernel
theorem dX7_sell_18 : decode cX7_sell 18 = .ok (.ifCond .ne 9, 3) := by decide +kernel
theorem dX7_sell_21 : decode cX7_sell 21 = .ok (.aload_n 0, 1) := by decide +kernel
theorem dX7_sell_22 : decode cX7_sell 22 = .ok (.iconst 1, 1) := by decide +kernel
theorem dX7_sell_23 : decode cX7_sell 23 = .ok (.invokevirtual 31, 3) := by decide +kernel
theorem dX7_sell_26 : decode cX7_sell 26 = .ok (.ireturn, 1) := by decide +kernel
theorem dX7_sell_27 : decode cX7_sell 27 = .ok (.iload_n 1, 1) := by decide +kernel
theorem dX7_sell_28 : decode cX7_sell 28 = .ok (.iload_n 2, 1) := by decide +kernel
theorem dX7_sell_29 : decode cX7_sell 29 = .ok (.if_icmp .eq 26, 3) := by decide +kernel
theorem dX7_sell_32 : decode cX7_sell 32 = .ok (.iload_n 3, 1) := by decide +kernel
theorem dX7_sell_33 : decode cX7_sell 33 = .ok (.iconst 1, 1) := by decide +kernel
theorem dX7_sell_34 : decode cX7_sell 34 = .ok (.sipush 5040, 3) := by decide +kernel
theorem dX7_sell_37 : decode cX7_sell 37 = .ok (.invokestatic 23, 3) := by decide +kernel
theorem dX7_sell_40 : decode cX7_sell 40 = .ok (.ifCond .eq 15, 3) := by decide +kernel
theorem dX7_sell_43 : decode cX7_sell 43 = .ok (.iload 4, 2) := by decide +kernel
theorem dX7_sell_45 : decode cX7_sell 45 = .ok (.iconst 0, 1) := by decide +kernel
theorem dX7_sell_46 : decode cX7_sell 46 = .ok (.sipush 9999, 3) := by decide +kernel
theorem dX7_sell_49 : decode cX7_sell 49 = .ok (.invokestatic 23, 3) := by decide +kernel
theorem dX7_sell_52 : decode cX7_sell 52 = .ok (.ifCond .ne 9, 3) := by decide +kernel
theorem dX7_sell_55 : decode cX7_sell 55 = .ok (.aload_n 0, 1) := by decide +kernel
theorem dX7_sell_56 : decode cX7_sell 56 = .ok (.iconst 2, 1) := by decide +kernel
theorem dX7_sell_57 : decode cX7_sell 57 = .ok (.invokevirtual 31, 3) := by decide +kernel
theorem dX7_sell_60 : decode cX7_sell 60 = .ok (.ireturn, 1) := by decide +kernel
theorem dX7_sell_61 : decode cX7_sell 61 = .ok (.aload_n 0, 1) := by decide +kernel
theorem dX7_sell_62 : decode cX7_sell 62 = .ok (.iload_n 1, 1) := by decide +kernel
theorem dX7_sell_63 : decode cX7_sell 63 = .ok (.invokevirtual 39, 3) := by decide +kernel
theorem dX7_sell_66 : decode cX7_sell 66 = .ok (.iconst 0, 1) := by decide +kernel
theorem dX7_sell_67 : decode cX7_sell 67 = .ok (.iaload, 1) := by decide +kernel
theorem dX7_sell_68 : decode cX7_sell 68 = .ok (.aload_n 0, 1) := by decide +kernel
theorem dX7_sell_69 : decode cX7_sell 69 = .ok (.getfield 10, 3) := by decide +kernel
theorem dX7_sell_72 : decode cX7_sell 72 = .ok (.iload_n 1, 1) := by decide +kernel
theorem dX7_sell_73 : decode cX7_sell 73 = .ok (.invokevirtual 60, 3) := by decide +kernel
theorem dX7_sell_76 : decode cX7_sell 76 = .ok (.isub, 1) := by decide +kernel
theorem dX7_sell_77 : decode cX7_sell 77 = .ok (.iload_n 3, 1) := by decide +kernel
theorem dX7_sell_78 : decode cX7_sell 78 = .ok (.if_icmp .ge 6, 3) := by decide +kernel
theorem dX7_sell_81 : decode cX7_sell 81 = .ok (.bipush (-2), 2) := by decide +kernel
theorem dX7_sell_83 : decode cX7_sell 83 = .ok (.ireturn, 1) := by decide +kernel
theorem dX7_sell_84 : decode cX7_sell 84 = .ok (.aload_n 0, 1) := by decide +kernel
theorem dX7_sell_85 : decode cX7_sell 85 = .ok (.iload_n 2, 1) := by decide +kernel
theorem dX7_sell_86 : decode cX7_sell 86 = .ok (.invokevirtual 39, 3) := by decide +kernel
theorem dX7_sell_89 : decode cX7_sell 89 = .ok (.iconst 1, 1) := by decide +kernel
theorem dX7_sell_90 : decode cX7_sell 90 = .ok (.iaload, 1) := by decide +kernel
theorem dX7_sell_91 : decode cX7_sell 91 = .ok (.iload 4, 2) := by decide +kernel
theorem dX7_sell_93 : decode cX7_sell 93 = .ok (.if_icmp .ge 6, 3) := by decide +kernel
theorem dX7_sell_96 : decode cX7_sell 96 = .ok (.bipush (-3), 2) := by decide +kernel
theorem dX7_sell_98 : decode cX7_sell 98 = .ok (.ireturn, 1) := by decide +kernel
theorem dX7_sell_99 : decode cX7_sell 99 = .ok (.aload_n 0, 1) := by decide +kernel
theorem dX7_sell_100 : decode cX7_sell 100 = .ok (.iload_n 1, 1) := by decide +kernel
theorem dX7_sell_101 : decode cX7_sell 101 = .ok (.invokevirtual 39, 3) := by decide +kernel
theorem dX7_sell_104 : decode cX7_sell 104 = .ok (.iconst 0, 1) := by decide +kernel
theorem dX7_sell_105 : decode cX7_sell 105 = .ok (.dup2, 1) := by decide +kernel
theorem dX7_sell_106 : decode cX7_sell 106 = .ok (.iaload, 1) := by decide +kernel
theorem dX7_sell_107 : decode cX7_sell 107 = .ok (.iload_n 3, 1) := by decide +kernel
theorem dX7_sell_108 : decode cX7_sell 108 = .ok (.isub, 1) := by decide +kernel
theorem dX7_sell_109 : decode cX7_sell 109 = .ok (.iastore, 1) := by decide +kernel
theorem dX7_sell_110 : decode cX7_sell 110 = .ok (.aload_n 0, 1) := by decide +kernel
theorem dX7_sell_111 : decode cX7_sell 111 = .ok (.iload_n 2, 1) := by decide +kernel
theorem dX7_sell_112 : decode cX7_sell 112 = .ok (.invokevirtual 39, 3) := by decide +kernel
theorem dX7_sell_115 : decode cX7_sell 115 = .ok (.iconst 0, 1) := by decide +kernel
theorem dX7_sell_116 : decode cX7_sell 116 = .ok (.dup2, 1) := by decide +kernel
theorem dX7_sell_117 : decode cX7_sell 117 = .ok (.iaload, 1) := by decide +kernel
theorem dX7_sell_118 : decode cX7_sell 118 = .ok (.iload_n 3, 1) := by decide +kernel
theorem dX7_sell_119 : decode cX7_sell 119 = .ok (.iadd, 1) := by decide +kernel
theorem dX7_sell_120 : decode cX7_sell 120 = .ok (.iastore, 1) := by decide +kernel
theorem dX7_sell_121 : decode cX7_sell 121 = .ok (.aload_n 0, 1) := by decide +kernel
theorem dX7_sell_122 : decode cX7_sell 122 = .ok (.iload_n 1, 1) := by decide +kernel
theorem dX7_sell_123 : decode cX7_sell 123 = .ok (.invokevirtual 39, 3) := by decide +kernel
theorem dX7_sell_126 : decode cX7_sell 126 = .ok (.iconst 1, 1) := by decide +kernel
theorem dX7_sell_127 : decode cX7_sell 127 = .ok (.dup2, 1) := by decide +kernel
theorem dX7_sell_128 : decode cX7_sell 128 = .ok (.iaload, 1) := by decide +kernel
theorem dX7_sell_129 : decode cX7_sell 129 = .ok (.iload 4, 2) := by decide +kernel
theorem dX7_sell_131 : decode cX7_sell 131 = .ok (.iadd, 1) := by decide +kernel
theorem dX7_sell_132 : decode cX7_sell 132 = .ok (.iastore, 1) := by decide +kernel
theorem dX7_sell_133 : decode cX7_sell 133 = .ok (.aload_n 0, 1) := by decide +kernel
theorem dX7_sell_134 : decode cX7_sell 134 = .ok (.iload_n 2, 1) := by decide +kernel
theorem dX7_sell_135 : decode cX7_sell 135 = .ok (.invokevirtual 39, 3) := by decide +kernel
theorem dX7_sell_138 : decode cX7_sell 138 = .ok (.iconst 1, 1) := by decide +kernel
theorem dX7_sell_139 : decode cX7_sell 139 = .ok (.dup2, 1) := by decide +kernel
theorem dX7_sell_140 : decode cX7_sell 140 = .ok (.iaload, 1) := by decide +kernel
theorem dX7_sell_141 : decode cX7_sell 141 = .ok (.iload 4, 2) := by decide +kernel
theorem dX7_sell_143 : decode cX7_sell 143 = .ok (.isub, 1) := by decide +kernel
theorem dX7_sell_144 : decode cX7_sell 144 = .ok (.iastore, 1) := by decide +kernel
theorem dX7_sell_145 : decode cX7_sell 145 = .ok (.aload_n 0, 1) := by decide +kernel
theorem dX7_sell_146 : decode cX7_sell 146 = .ok (.iload_n 2, 1) := by decide +kernel
theorem dX7_sell_147 : decode cX7_sell 147 = .ok (.invokevirtual 39, 3) := by decide +kernel
theorem dX7_sell_150 : decode cX7_sell 150 = .ok (.iconst 0, 1) := by decide +kernel
theorem dX7_sell_151 : decode cX7_sell 151 = .ok (.iaload, 1) := by decide +kernel
theorem dX7_sell_152 : decode cX7_sell 152 = .ok (.ireturn, 1) := by decide +kernel
theorem dX7_lend_0 : decode cX7_lend 0 = .ok (.aload_n 0, 1) := by decide +kernel
theorem dX7_lend_1 : decode cX7_lend 1 = .ok (.iconst 0, 1) := by decide +kernel
theorem dX7_lend_2 : decode cX7_lend 2 = .ok (.putfield 16, 3) := by decide +kernel
theorem dX7_lend_5 : decode cX7_lend 5 = .ok (.aload_n 0, 1) := by decide +kernel
theorem dX7_lend_6 : decode cX7_lend 6 = .ok (.iload_n 1, 1) := by decide +kernel
theorem dX7_lend_7 : decode cX7_lend 7 = .ok (.invokevirtual 56, 3) := by decide +kernel
theorem dX7_lend_10 : decode cX7_lend 10 = .ok (.ifCond .eq 11, 3) := by decide +kernel
theorem dX7_lend_13 : decode cX7_lend 13 = .ok (.aload_n 0, 1) := by decide +kernel
theorem dX7_lend_14 : decode cX7_lend 14 = .ok (.iload_n 2, 1) := by decide +kernel
theorem dX7_lend_15 : decode cX7_lend 15 = .ok (.invokevirtual 56, 3) := by decide +kernel
theorem dX7_lend_18 : decode cX7_lend 18 = .ok (.ifCond .ne 9, 3) := by decide +kernel
theorem dX7_lend_21 : decode cX7_lend 21 = .ok (.aload_n 0, 1) := by decide +kernel
theorem dX7_lend_22 : decode cX7_lend 22 = .ok (.iconst 1, 1) := by decide +kernel
theorem dX7_lend_23 : decode cX7_lend 23 = .ok (.invokevirtual 31, 3) := by decide +kernel
theorem dX7_lend_26 : decode cX7_lend 26 = .ok (.ireturn, 1) := by decide +kernel
theorem dX7_lend_27 : decode cX7_lend 27 = .ok (.iload_n 1, 1) := by decide +kernel
theorem dX7_lend_28 : decode cX7_lend 28 = .ok (.iload_n 2, 1) := by decide +kernel
theorem dX7_lend_29 : decode cX7_lend 29 = .ok (.if_icmp .eq 25, 3) := by decide +kernel
theorem dX7_lend_32 : decode cX7_lend 32 = .ok (.iload_n 3, 1) := by decide +kernel
theorem dX7_lend_33 : decode cX7_lend 33 = .ok (.iconst 1, 1) := by decide +kernel
theorem dX7_lend_34 : decode cX7_lend 34 = .ok (.sipush 5040, 3) := by decide +kernel
theorem dX7_lend_37 : decode cX7_lend 37 = .ok (.invokestatic 23, 3) := by decide +kernel
theorem dX7_lend_40 : decode cX7_lend 40 = .ok (.ifCond .eq 14, 3) := by decide +kernel
theorem dX7_lend_43 : decode cX7_lend 43 = .ok (.iload 4, 2) := by decide +kernel
theorem dX7_lend_45 : decode cX7_lend 45 = .ok (.iconst 1, 1) := by decide +kernel
theorem dX7_lend_46 : decode cX7_lend 46 = .ok (.bipush 20, 2) := by decide +kernel
theorem dX7_lend_48 : decode cX7_lend 48 = .ok (.invokestatic 23, 3) := by decide +kernel
theorem dX7_lend_51 : decode cX7_lend 51 = .ok (.ifCond .ne 9, 3) := by decide +kernel
theorem dX7_lend_54 : decode cX7_lend 54 = .ok (.aload_n 0, 1) := by decide +kernel
theorem dX7_lend_55 : decode cX7_lend 55 = .ok (.iconst 2, 1) := by decide +kernel
theorem dX7_lend_56 : decode cX7_lend 56 = .ok (.invokevirtual 31, 3) := by decide +kernel
theorem dX7_lend_59 : decode cX7_lend 59 = .ok (.ireturn, 1) := by decide +kernel
theorem dX7_lend_60 : decode cX7_lend 60 = .ok (.aload_n 0, 1) := by decide +kernel
theorem dX7_lend_61 : decode cX7_lend 61 = .ok (.getfield 10, 3) := by decide +kernel
theorem dX7_lend_64 : decode cX7_lend 64 = .ok (.getfield 63, 3) := by decide +kernel
theorem dX7_lend_67 : decode cX7_lend 67 = .ok (.bipush 8, 2) := by decide +kernel
theorem dX7_lend_69 : decode cX7_lend 69 = .ok (.if_icmp .ne 9, 3) := by decide +kernel
theorem dX7_lend_72 : decode cX7_lend 72 = .ok (.aload_n 0, 1) := by decide +kernel
theorem dX7_lend_73 : decode cX7_lend 73 = .ok (.iconst 3, 1) := by decide +kernel
theorem dX7_lend_74 : decode cX7_lend 74 = .ok (.invokevirtual 31, 3) := by decide +kernel
theorem dX7_lend_77 : decode cX7_lend 77 = .ok (.ireturn, 1) := by decide +kernel
theorem dX7_lend_78 : decode cX7_lend 78 = .ok (.aload_n 0, 1) := by decide +kernel
theorem dX7_lend_79 : decode cX7_lend 79 = .ok (.iload_n 1, 1) := by decide +kernel
theorem dX7_lend_80 : decode cX7_lend 80 = .ok (.invokevirtual 39, 3) := by decide +kernel
theorem dX7_lend_83 : decode cX7_lend 83 = .ok (.iconst 0, 1) := by decide +kernel
theorem dX7_lend_84 : decode cX7_lend 84 = .ok (.iaload, 1) := by decide +kernel
theorem dX7_lend_85 : decode cX7_lend 85 = .ok (.aload_n 0, 1) := by decide +kernel
theorem dX7_lend_86 : decode cX7_lend 86 = .ok (.getfield 10, 3) := by decide +kernel
theorem dX7_lend_89 : decode cX7_lend 89 = .ok (.iload_n 1, 1) := by decide +kernel
theorem dX7_lend_90 : decode cX7_lend 90 = .ok (.invokevirtual 60, 3) := by decide +kernel
theorem dX7_lend_93 : decode cX7_lend 93 = .ok (.isub, 1) := by decide +kernel
theorem dX7_lend_94 : decode cX7_lend 94 = .ok (.iload_n 3, 1) := by decide +kernel
theorem dX7_lend_95 : decode cX7_lend 95 = .ok (.if_icmp .ge 6, 3) := by decide +kernel
theorem dX7_lend_98 : decode cX7_lend 98 = .ok (.bipush (-2), 2) := by decide +kernel
theorem dX7_lend_100 : decode cX7_lend 100 = .ok (.ireturn, 1) := by decide +kernel
theorem dX7_lend_101 : decode cX7_lend 101 = .ok (.iconst 4, 1) := by decide +kernel
theorem dX7_lend_102 : decode cX7_lend 102 = .ok (.newarray .int, 2) := by decide +kernel
theorem dX7_lend_104 : decode cX7_lend 104 = .ok (.dup, 1) := by decide +kernel
theorem dX7_lend_105 : decode cX7_lend 105 = .ok (.iconst 0, 1) := by decide +kernel
theorem dX7_lend_106 : decode cX7_lend 106 = .ok (.iload_n 1, 1) := by decide +kernel
theorem dX7_lend_107 : decode cX7_lend 107 = .ok (.iastore, 1) := by decide +kernel
theorem dX7_lend_108 : decode cX7_lend 108 = .ok (.dup, 1) := by decide +kernel
theorem dX7_lend_109 : decode cX7_lend 109 = .ok (.iconst 1, 1) := by decide +kernel
theorem dX7_lend_110 : decode cX7_lend 110 = .ok (.iload_n 2, 1) := by decide +kernel
theorem dX7_lend_111 : decode cX7_lend 111 = .ok (.iastore, 1) := by decide +kernel
theorem dX7_lend_112 : decode cX7_lend 112 = .ok (.dup, 1) := by decide +kernel
theorem dX7_lend_113 : decode cX7_lend 113 = .ok (.iconst 2, 1) := by decide +kernel
theorem dX7_lend_114 : decode cX7_lend 114 = .ok (.iload_n 3, 1) := by decide +kernel
theorem dX7_lend_115 : decode cX7_lend 115 = .ok (.iastore, 1) := by decide +kernel
theorem dX7_lend_116 : decode cX7_lend 116 = .ok (.dup, 1) := by decide +kernel
theorem dX7_lend_117 : decode cX7_lend 117 = .ok (.iconst 3, 1) := by decide +kernel
theorem dX7_lend_118 : decode cX7_lend 118 = .ok (.iload 4, 2) := by decide +kernel
theorem dX7_lend_120 : decode cX7_lend 120 = .ok (.iastore, 1) := by decide +kernel
theorem dX7_lend_121 : decode cX7_lend 121 = .ok (.astore 5, 2) := by decide +kernel
theorem dX7_lend_123 : decode cX7_lend 123 = .ok (.aload 5, 2) := by decide +kernel
theorem dX7_lend_125 : decode cX7_lend 125 = .ok (.iconst 0, 1) := by decide +kernel
theorem dX7_lend_126 : decode cX7_lend 126 = .ok (.aload_n 0, 1) := by decide +kernel
theorem dX7_lend_127 : decode cX7_lend 127 = .ok (.getfield 10, 3) := by decide +kernel
theorem dX7_lend_130 : decode cX7_lend 130 = .ok (.getfield 66, 3) := by decide +kernel
theorem dX7_lend_133 : decode cX7_lend 133 = .ok (.aload_n 0, 1) := by decide +kernel
theorem dX7_lend_134 : decode cX7_lend 134 = .ok (.getfield 10, 3) := by decide +kernel
theorem dX7_lend_137 : decode cX7_lend 137 = .ok (.dup, 1) := by decide +kernel
theorem dX7_lend_138 : decode cX7_lend 138 = .ok (.getfield 63, 3) := by decide +kernel
theorem dX7_lend_141 : decode cX7_lend 141 = .ok (.dup_x1, 1) := by decide +kernel
theorem dX7_lend_142 : decode cX7_lend 142 = .ok (.iconst 1, 1) := by decide +kernel
theorem dX7_lend_143 : decode cX7_lend 143 = .ok (.iadd, 1) := by decide +kernel
theorem dX7_lend_144 : decode cX7_lend 144 = .ok (.putfield 63, 3) := by decide +kernel
theorem dX7_lend_147 : decode cX7_lend 147 = .ok (.aaload, 1) := by decide +kernel
theorem dX7_lend_148 : decode cX7_lend 148 = .ok (.iconst 0, 1) := by decide +kernel
theorem dX7_lend_149 : decode cX7_lend 149 = .ok (.iconst 4, 1) := by decide +kernel
theorem dX7_lend_150 : decode cX7_lend 150 = .ok (.invokestatic 43, 3) := by decide +kernel
theorem dX7_lend_153 : decode cX7_lend 153 = .ok (.aload_n 0, 1) := by decide +kernel
theorem dX7_lend_154 : decode cX7_lend 154 = .ok (.getfield 10, 3) := by decide +kernel
theorem dX7_lend_157 : decode cX7_lend 157 = .ok (.getfield 63, 3) := by decide +kernel
theorem dX7_lend_160 : decode cX7_lend 160 = .ok (.ireturn, 1) := by decide +kernel
theorem dX7_die_0 : decode cX7_die 0 = .ok (.aload_n 0, 1) := by decide +kernel
theorem dX7_die_1 : decode cX7_die 1 = .ok (.iconst 0, 1) := by decide +kernel
theorem dX7_die_2 : decode cX7_die 2 = .ok (.putfield 16, 3) := by decide +kernel
theorem dX7_die_5 : decode cX7_die 5 = .ok (.aload_n 0, 1) := by decide +kernel
theorem dX7_die_6 : decode cX7_die 6 = .ok (.iload_n 1, 1) := by decide +kernel
theorem dX7_die_7 : decode cX7_die 7 = .ok (.invokevirtual 56, 3) := by decide +kernel
theorem dX7_die_10 : decode cX7_die 10 = .ok (.ifCond .ne 9, 3) := by decide +kernel
theorem dX7_die_13 : decode cX7_die 13 = .ok (.aload_n 0, 1) := by decide +kernel
theorem dX7_die_14 : decode cX7_die 14 = .ok (.iconst 1, 1) := by decide +kernel
theorem dX7_die_15 : decode cX7_die 15 = .ok (.invokevirtual 31, 3) := by decide +kernel
theorem dX7_die_18 : decode cX7_die 18 = .ok (.ireturn, 1) := by decide +kernel
theorem dX7_die_19 : decode cX7_die 19 = .ok (.iload_n 2, 1) := by decide +kernel
theorem dX7_die_20 : decode cX7_die 20 = .ok (.ifCond .lt 28, 3) := by decide +kernel
theorem dX7_die_23 : decode cX7_die 23 = .ok (.iload_n 3, 1) := by decide +kernel
theorem dX7_die_24 : decode cX7_die 24 = .ok (.ifCond .lt 24, 3) := by decide +kernel
theorem dX7_die_27 : decode cX7_die 27 = .ok (.iload_n 2, 1) := by decide +kernel
theorem dX7_die_28 : decode cX7_die 28 = .ok (.iconst 4, 1) := by decide +kernel
theorem dX7_die_29 : decode cX7_die 29 = .ok (.if_icmp .gt 19, 3) := by decide +kernel
theorem dX7_die_32 : decode cX7_die 32 = .ok (.iload_n 3, 1) := by decide +kernel
theorem dX7_die_33 : decode cX7_die 33 = .ok (.iconst 4, 1) := by decide +kernel
theorem dX7_die_34 : decode cX7_die 34 = .ok (.if_icmp .gt 14, 3) := by decide +kernel
theorem dX7_die_37 : decode cX7_die 37 = .ok (.iload_n 2, 1) := by decide +kernel
theorem dX7_die_38 : decode cX7_die 38 = .ok (.iload_n 3, 1) := by decide +kernel
theorem dX7_die_39 : decode cX7_die 39 = .ok (.iadd, 1) := by decide +kernel
theorem dX7_die_40 : decode cX7_die 40 = .ok (.iconst 1, 1) := by decide +kernel
theorem dX7_die_41 : decode cX7_die 41 = .ok (.iconst 4, 1) := by decide +kernel
theorem dX7_die_42 : decode cX7_die 42 = .ok (.invokestatic 23, 3) := by decide +kernel
theorem dX7_die_45 : decode cX7_die 45 = .ok (.ifCond .ne 9, 3) := by decide +kernel
theorem dX7_die_48 : decode cX7_die 48 = .ok (.aload_n 0, 1) := by decide +kernel
theorem dX7_die_49 : decode cX7_die 49 = .ok (.iconst 2, 1) := by decide +kernel
theorem dX7_die_50 : decode cX7_die 50 = .ok (.invokevirtual 31, 3) := by decide +kernel
theorem dX7_die_53 : decode cX7_die 53 = .ok (.ireturn, 1) := by decide +kernel
theorem dX7_die_54 : decode cX7_die 54 = .ok (.iload_n 2, 1) := by decide +kernel
theorem dX7_die_55 : decode cX7_die 55 = .ok (.iload_n 3, 1) := by decide +kernel
theorem dX7_die_56 : decode cX7_die 56 = .ok (.iadd, 1) := by decide +kernel
theorem dX7_die_57 : decode cX7_die 57 = .ok (.istore 4, 2) := by decide +kernel
theorem dX7_die_59 : decode cX7_die 59 = .ok (.aload_n 0, 1) := by decide +kernel
theorem dX7_die_60 : decode cX7_die 60 = .ok (.getfield 10, 3) := by decide +kernel
theorem dX7_die_63 : decode cX7_die 63 = .ok (.getfield 20, 3) := by decide +kernel
theorem dX7_die_66 : decode cX7_die 66 = .ok (.iload 4, 2) := by decide +kernel
theorem dX7_die_68 : decode cX7_die 68 = .ok (.iadd, 1) := by decide +kernel
theorem dX7_die_69 : decode cX7_die 69 = .ok (.bipush 10, 2) := by decide +kernel
theorem dX7_die_71 : decode cX7_die 71 = .ok (.if_icmp .le 9, 3) := by decide +kernel
theorem dX7_die_74 : decode cX7_die 74 = .ok (.aload_n 0, 1) := by decide +kernel
theorem dX7_die_75 : decode cX7_die 75 = .ok (.iconst 3, 1) := by decide +kernel
theorem dX7_die_76 : decode cX7_die 76 = .ok (.invokevirtual 31, 3) := by decide +kernel
theorem dX7_die_79 : decode cX7_die 79 = .ok (.ireturn, 1) := by decide +kernel
theorem dX7_die_80 : decode cX7_die 80 = .ok (.iconst 2, 1) := by decide +kernel
theorem dX7_die_81 : decode cX7_die 81 = .ok (.iload_n 2, 1) := by decide +kernel
theorem dX7_die_82 : decode cX7_die 82 = .ok (.imul, 1) := by decide +kernel
theorem dX7_die_83 : decode cX7_die 83 = .ok (.iload_n 3, 1) := by decide +kernel
theorem dX7_die_84 : decode cX7_die 84 = .ok (.iadd, 1) := by decide +kernel
theorem dX7_die_85 : decode cX7_die 85 = .ok (.istore 5, 2) := by decide +kernel
theorem dX7_die_87 : decode cX7_die 87 = .ok (.aload_n 0, 1) := by decide +kernel
theorem dX7_die_88 : decode cX7_die 88 = .ok (.iload_n 1, 1) := by decide +kernel
theorem dX7_die_89 : decode cX7_die 89 = .ok (.invokevirtual 39, 3) := by decide +kernel
theorem dX7_die_92 : decode cX7_die 92 = .ok (.astore 6, 2) := by decide +kernel
theorem dX7_die_94 : decode cX7_die 94 = .ok (.aload_n 0, 1) := by decide +kernel
theorem dX7_die_95 : decode cX7_die 95 = .ok (.getfield 10, 3) := by decide +kernel
theorem dX7_die_98 : decode cX7_die 98 = .ok (.getfield 20, 3) := by decide +kernel
theorem dX7_die_101 : decode cX7_die 101 = .ok (.istore 7, 2) := by decide +kernel
theorem dX7_die_103 : decode cX7_die 103 = .ok (.iconst 0, 1) := by decide +kernel
theorem dX7_die_104 : decode cX7_die 104 = .ok (.istore 8, 2) := by decide +kernel
theorem dX7_die_106 : decode cX7_die 106 = .ok (.iload 8, 2) := by decide +kernel
theorem dX7_die_108 : decode cX7_die 108 = .ok (.bipush 7, 2) := by decide +kernel
theorem dX7_die_110 : decode cX7_die 110 = .ok (.if_icmp .ge 130, 3) := by decide +kernel
theorem dX7_die_113 : decode cX7_die 113 = .ok (.iload 8, 2) := by decide +kernel
theorem dX7_die_115 : decode cX7_die 115 = .ok (.iconst 4, 1) := by decide +kernel
theorem dX7_die_116 : decode cX7_die 116 = .ok (.if_icmp .eq 118, 3) := by decide +kernel
theorem dX7_die_119 : decode cX7_die 119 = .ok (.iload 8, 2) := by decide +kernel
theorem dX7_die_121 : decode cX7_die 121 = .ok (.iconst 5, 1) := by decide +kernel
theorem dX7_die_122 : decode cX7_die 122 = .ok (.if_icmp .ne 6, 3) := by decide +kernel
theorem dX7_die_125 : decode cX7_die 125 = .ok (.goto 109, 3) := by decide +kernel
theorem dX7_die_128 : decode cX7_die 128 = .ok (.aload 6, 2) := by decide +kernel
theorem dX7_die_130 : decode cX7_die 130 = .ok (.iload 8, 2) := by decide +kernel
theorem dX7_die_132 : decode cX7_die 132 = .ok (.iaload, 1) := by decide +kernel
theorem dX7_die_133 : decode cX7_die 133 = .ok (.istore 9, 2) := by decide +kernel
theorem dX7_die_135 : decode cX7_die 135 = .ok (.iconst 0, 1) := by decide +kernel
theorem dX7_die_136 : decode cX7_die 136 = .ok (.istore 10, 2) := by decide +kernel
theorem dX7_die_138 : decode cX7_die 138 = .ok (.iload 10, 2) := by decide +kernel
theorem dX7_die_140 : decode cX7_die 140 = .ok (.iload 4, 2) := by decide +kernel
theorem dX7_die_142 : decode cX7_die 142 = .ok (.if_icmp .ge 60, 3) := by decide +kernel
theorem dX7_die_145 : decode cX7_die 145 = .ok (.aload_n 0, 1) := by decide +kernel
theorem dX7_die_146 : decode cX7_die 146 = .ok (.iload 7, 2) := by decide +kernel
theorem dX7_die_148 : decode cX7_die 148 = .ok (.iload 10, 2) := by decide +kernel
theorem dX7_die_150 : decode cX7_die 150 = .ok (.iadd, 1) := by decide +kernel
theorem dX7_die_151 : decode cX7_die 151 = .ok (.invokevirtual 39, 3) := by decide +kernel
theorem dX7_die_154 : decode cX7_die 154 = .ok (.iload 8, 2) := by decide +kernel
theorem dX7_die_156 : decode cX7_die 156 = .ok (.aload 6, 2) := by decide +kernel
theorem dX7_die_158 : decode cX7_die 158 = .ok (.iload 8, 2) := by decide +kernel
theorem dX7_die_160 : decode cX7_die 160 = .ok (.iaload, 1) := by decide +kernel
theorem dX7_die_161 : decode cX7_die 161 = .ok (.iload 10, 2) := by decide +kernel
theorem dX7_die_163 : decode cX7_die 163 = .ok (.iload_n 2, 1) := by decide +kernel
theorem dX7_die_164 : decode cX7_die 164 = .ok (.if_icmp .ge 7, 3) := by decide +kernel
theorem dX7_die_167 : decode cX7_die 167 = .ok (.iconst 2, 1) := by decide +kernel
theorem dX7_die_168 : decode cX7_die 168 = .ok (.goto 4, 3) := by decide +kernel
theorem dX7_die_171 : decode cX7_die 171 = .ok (.iconst 1, 1) := by decide +kernel
theorem dX7_die_172 : decode cX7_die 172 = .ok (.imul, 1) := by decide +kernel
theorem dX7_die_173 : decode cX7_die 173 = .ok (.iload 5, 2) := by decide +kernel
theorem dX7_die_175 : decode cX7_die 175 = .ok (.invokestatic 69, 3) := by decide +kernel
theorem dX7_die_178 : decode cX7_die 178 = .ok (.iastore, 1) := by decide +kernel
theorem dX7_die_179 : decode cX7_die 179 = .ok (.iload 9, 2) := by decide +kernel
theorem dX7_die_181 : decode cX7_die 181 = .ok (.aload_n 0, 1) := by decide +kernel
theorem dX7_die_182 : decode cX7_die 182 = .ok (.iload 7, 2) := by decide +kernel
theorem dX7_die_184 : decode cX7_die 184 = .ok (.iload 10, 2) := by decide +kernel
theorem dX7_die_186 : decode cX7_die 186 = .ok (.iadd, 1) := by decide +kernel
theorem dX7_die_187 : decode cX7_die 187 = .ok (.invokevirtual 39, 3) := by decide +kernel
theorem dX7_die_190 : decode cX7_die 190 = .ok (.iload 8, 2) := by decide +kernel
theorem dX7_die_192 : decode cX7_die 192 = .ok (.iaload, 1) := by decide +kernel
theorem dX7_die_193 : decode cX7_die 193 = .ok (.isub, 1) := by decide +kernel
theorem dX7_die_194 : decode cX7_die 194 = .ok (.istore 9, 2) := by decide +kernel
theorem dX7_die_196 : decode cX7_die 196 = .ok (.iinc 10 1, 3) := by decide +kernel
theorem dX7_die_199 : decode cX7_die 199 = .ok (.goto (-61), 3) := by decide +kernel
theorem dX7_die_202 : decode cX7_die 202 = .ok (.iconst 0, 1) := by decide +kernel
theorem dX7_die_203 : decode cX7_die 203 = .ok (.istore 10, 2) := by decide +kernel
theorem dX7_die_205 : decode cX7_die 205 = .ok (.iload 10, 2) := by decide +kernel
theorem dX7_die_207 : decode cX7_die 207 = .ok (.iload 9, 2) := by decide +kernel
theorem dX7_die_209 : decode cX7_die 209 = .ok (.if_icmp .ge 25, 3) := by decide +kernel
theorem dX7_die_212 : decode cX7_die 212 = .ok (.aload_n 0, 1) := by decide +kernel
theorem dX7_die_213 : decode cX7_die 213 = .ok (.iload 7, 2) := by decide +kernel
theorem dX7_die_215 : decode cX7_die 215 = .ok (.iload 10, 2) := by decide +kernel
theorem dX7_die_217 : decode cX7_die 217 = .ok (.iadd, 1) := by decide +kernel
theorem dX7_die_218 : decode cX7_die 218 = .ok (.invokevirtual 39, 3) := by decide +kernel
theorem dX7_die_221 : decode cX7_die 221 = .ok (.iload 8, 2) := by decide +kernel
theorem dX7_die_223 : decode cX7_die 223 = .ok (.dup2, 1) := by decide +kernel
theorem dX7_die_224 : decode cX7_die 224 = .ok (.iaload, 1) := by decide +kernel
theorem dX7_die_225 : decode cX7_die 225 = .ok (.iconst 1, 1) := by decide +kernel
theorem dX7_die_226 : decode cX7_die 226 = .ok (.iadd, 1) := by decide +kernel
theorem dX7_die_227 : decode cX7_die 227 = .ok (.iastore, 1) := by decide +kernel
theorem dX7_die_228 : decode cX7_die 228 = .ok (.iinc 10 1, 3) := by decide +kernel
theorem dX7_die_231 : decode cX7_die 231 = .ok (.goto (-26), 3) := by decide +kernel
theorem dX7_die_234 : decode cX7_die 234 = .ok (.iinc 8 1, 3) := by decide +kernel
theorem dX7_die_237 : decode cX7_die 237 = .ok (.goto (-131), 3) := by decide +kernel
theorem dX7_die_240 : decode cX7_die 240 = .ok (.iconst 0, 1) := by decide +kernel
theorem dX7_die_241 : decode cX7_die 241 = .ok (.istore 8, 2) := by decide +kernel
theorem dX7_die_243 : decode cX7_die 243 = .ok (.iload 8, 2) := by decide +kernel
theorem dX7_die_245 : decode cX7_die 245 = .ok (.iload 4, 2) := by decide +kernel
theorem dX7_die_247 : decode cX7_die 247 = .ok (.if_icmp .ge 52, 3) := by decide +kernel
theorem dX7_die_250 : decode cX7_die 250 = .ok (.aload_n 0, 1) := by decide +kernel
theorem dX7_die_251 : decode cX7_die 251 = .ok (.iload 7, 2) := by decide +kernel
theorem dX7_die_253 : decode cX7_die 253 = .ok (.iload 8, 2) := by decide +kernel
theorem dX7_die_255 : decode cX7_die 255 = .ok (.iadd, 1) := by decide +kernel
theorem dX7_die_256 : decode cX7_die 256 = .ok (.invokevirtual 39, 3) := by decide +kernel
theorem dX7_die_259 : decode cX7_die 259 = .ok (.iconst 4, 1) := by decide +kernel
theorem dX7_die_260 : decode cX7_die 260 = .ok (.aload 6, 2) := by decide +kernel
theorem dX7_die_262 : decode cX7_die 262 = .ok (.iconst 4, 1) := by decide +kernel
theorem dX7_die_263 : decode cX7_die 263 = .ok (.iaload, 1) := by decide +kernel
theorem dX7_die_264 : decode cX7_die 264 = .ok (.iastore, 1) := by decide +kernel
theorem dX7_die_265 : decode cX7_die 265 = .ok (.aload_n 0, 1) := by decide +kernel
theorem dX7_die_266 : decode cX7_die 266 = .ok (.iload 7, 2) := by decide +kernel
theorem dX7_die_268 : decode cX7_die 268 = .ok (.iload 8, 2) := by decide +kernel
theorem dX7_die_270 : decode cX7_die 270 = .ok (.iadd, 1) := by decide +kernel
theorem dX7_die_271 : decode cX7_die 271 = .ok (.invokevirtual 39, 3) := by decide +kernel
theorem dX7_die_274 : decode cX7_die 274 = .ok (.iconst 5, 1) := by decide +kernel
theorem dX7_die_275 : decode cX7_die 275 = .ok (.aload 6, 2) := by decide +kernel
theorem dX7_die_277 : decode cX7_die 277 = .ok (.iconst 5, 1) := by decide +kernel
theorem dX7_die_278 : decode cX7_die 278 = .ok (.iaload, 1) := by decide +kernel
theorem dX7_die_279 : decode cX7_die 279 = .ok (.iastore, 1) := by decide +kernel
theorem dX7_die_280 : decode cX7_die 280 = .ok (.aload_n 0, 1) := by decide +kernel
theorem dX7_die_281 : decode cX7_die 281 = .ok (.iload 7, 2) := by decide +kernel
theorem dX7_die_283 : decode cX7_die 283 = .ok (.iload 8, 2) := by decide +kernel
theorem dX7_die_285 : decode cX7_die 285 = .ok (.iadd, 1) := by decide +kernel
theorem dX7_die_286 : decode cX7_die 286 = .ok (.invokevirtual 39, 3) := by decide +kernel
theorem dX7_die_289 : decode cX7_die 289 = .ok (.bipush 11, 2) := by decide +kernel
theorem dX7_die_291 : decode cX7_die 291 = .ok (.iconst 1, 1) := by decide +kernel
theorem dX7_die_292 : decode cX7_die 292 = .ok (.iastore, 1) := by decide +kernel
theorem dX7_die_293 : decode cX7_die 293 = .ok (.iinc 8 1, 3) := by decide +kernel
theorem dX7_die_296 : decode cX7_die 296 = .ok (.goto (-53), 3) := by decide +kernel
theorem dX7_die_299 : decode cX7_die 299 = .ok (.aload 6, 2) := by decide +kernel
theorem dX7_die_301 : decode cX7_die 301 = .ok (.bipush 11, 2) := by decide +kernel
theorem dX7_die_303 : decode cX7_die 303 = .ok (.iconst 0, 1) := by decide +kernel
theorem dX7_die_304 : decode cX7_die 304 = .ok (.iastore, 1) := by decide +kernel
theorem dX7_die_305 : decode cX7_die 305 = .ok (.aload_n 0, 1) := by decide +kernel
theorem dX7_die_306 : decode cX7_die 306 = .ok (.getfield 10, 3) := by decide +kernel
theorem dX7_die_309 : decode cX7_die 309 = .ok (.iload_n 1, 1) := by decide +kernel
theorem dX7_die_310 : decode cX7_die 310 = .ok (.invokevirtual 73, 3) := by decide +kernel
theorem dX7_die_313 : decode cX7_die 313 = .ok (.istore 8, 2) := by decide +kernel
theorem dX7_die_315 : decode cX7_die 315 = .ok (.aload_n 0, 1) := by decide +kernel
theorem dX7_die_316 : decode cX7_die 316 = .ok (.getfield 10, 3) := by decide +kernel
theorem dX7_die_319 : decode cX7_die 319 = .ok (.getfield 49, 3) := by decide +kernel
theorem dX7_die_322 : decode cX7_die 322 = .ok (.iload 8, 2) := by decide +kernel
theorem dX7_die_324 : decode cX7_die 324 = .ok (.iconst 1, 1) := by decide +kernel
theorem dX7_die_325 : decode cX7_die 325 = .ok (.iadd, 1) := by decide +kernel
theorem dX7_die_326 : decode cX7_die 326 = .ok (.aload_n 0, 1) := by decide +kernel
theorem dX7_die_327 : decode cX7_die 327 = .ok (.getfield 10, 3) := by decide +kernel
theorem dX7_die_330 : decode cX7_die 330 = .ok (.getfield 49, 3) := by decide +kernel
theorem dX7_die_333 : decode cX7_die 333 = .ok (.iload 8, 2) := by decide +kernel
theorem dX7_die_335 : decode cX7_die 335 = .ok (.iload 4, 2) := by decide +kernel
theorem dX7_die_337 : decode cX7_die 337 = .ok (.iadd, 1) := by decide +kernel
theorem dX7_die_338 : decode cX7_die 338 = .ok (.aload_n 0, 1) := by decide +kernel
theorem dX7_die_339 : decode cX7_die 339 = .ok (.getfield 10, 3) := by decide +kernel
theorem dX7_die_342 : decode cX7_die 342 = .ok (.getfield 53, 3) := by decide +kernel
theorem dX7_die_345 : decode cX7_die 345 = .ok (.iload 8, 2) := by decide +kernel
theorem dX7_die_347 : decode cX7_die 347 = .ok (.isub, 1) := by decide +kernel
theorem dX7_die_348 : decode cX7_die 348 = .ok (.iconst 1, 1) := by decide +kernel
theorem dX7_die_349 : decode cX7_die 349 = .ok (.isub, 1) := by decide +kernel
theorem dX7_die_350 : decode cX7_die 350 = .ok (.invokestatic 43, 3) := by decide +kernel
theorem dX7_die_353 : decode cX7_die 353 = .ok (.iconst 0, 1) := by decide +kernel
theorem dX7_die_354 : decode cX7_die 354 = .ok (.istore 9, 2) := by decide +kernel
theorem dX7_die_356 : decode cX7_die 356 = .ok (.iload 9, 2) := by decide +kernel
theorem dX7_die_358 : decode cX7_die 358 = .ok (.iload 4, 2) := by decide +kernel
theorem dX7_die_360 : decode cX7_die 360 = .ok (.if_icmp .ge 27, 3) := by decide +kernel
theorem dX7_die_363 : decode cX7_die 363 = .ok (.aload_n 0, 1) := by decide +kernel
theorem dX7_die_364 : decode cX7_die 364 = .ok (.getfield 10, 3) := by decide +kernel
theorem dX7_die_367 : decode cX7_die 367 = .ok (.getfield 49, 3) := by decide +kernel
theorem dX7_die_370 : decode cX7_die 370 = .ok (.iload 8, 2) := by decide +kernel
theorem dX7_die_372 : decode cX7_die 372 = .ok (.iload 9, 2) := by decide +kernel
theorem dX7_die_374 : decode cX7_die 374 = .ok (.iadd, 1) := by decide +kernel
theorem dX7_die_375 : decode cX7_die 375 = .ok (.iload 7, 2) := by decide +kernel
theorem dX7_die_377 : decode cX7_die 377 = .ok (.iload 9, 2) := by decide +kernel
theorem dX7_die_379 : decode cX7_die 379 = .ok (.iadd, 1) := by decide +kernel
theorem dX7_die_380 : decode cX7_die 380 = .ok (.iastore, 1) := by decide +kernel
theorem dX7_die_381 : decode cX7_die 381 = .ok (.iinc 9 1, 3) := by decide +kernel
theorem dX7_die_384 : decode cX7_die 384 = .ok (.goto (-28), 3) := by decide +kernel
theorem dX7_die_387 : decode cX7_die 387 = .ok (.aload_n 0, 1) := by decide +kernel
theorem dX7_die_388 : decode cX7_die 388 = .ok (.getfield 10, 3) := by decide +kernel
theorem dX7_die_391 : decode cX7_die 391 = .ok (.dup, 1) := by decide +kernel
theorem dX7_die_392 : decode cX7_die 392 = .ok (.getfield 53, 3) := by decide +kernel
theorem dX7_die_395 : decode cX7_die 395 = .ok (.iload 4, 2) := by decide +kernel
theorem dX7_die_397 : decode cX7_die 397 = .ok (.iconst 1, 1) := by decide +kernel
theorem dX7_die_398 : decode cX7_die 398 = .ok (.isub, 1) := by decide +kernel
theorem dX7_die_399 : decode cX7_die 399 = .ok (.iadd, 1) := by decide +kernel
theorem dX7_die_400 : decode cX7_die 400 = .ok (.putfield 53, 3) := by decide +kernel
theorem dX7_die_403 : decode cX7_die 403 = .ok (.aload_n 0, 1) := by decide +kernel
theorem dX7_die_404 : decode cX7_die 404 = .ok (.getfield 10, 3) := by decide +kernel
theorem dX7_die_407 : decode cX7_die 407 = .ok (.dup, 1) := by decide +kernel
theorem dX7_die_408 : decode cX7_die 408 = .ok (.getfield 20, 3) := by decide +kernel
theorem dX7_die_411 : decode cX7_die 411 = .ok (.iload 4, 2) := by decide +kernel
theorem dX7_die_413 : decode cX7_die 413 = .ok (.iadd, 1) := by decide +kernel
theorem dX7_die_414 : decode cX7_die 414 = .ok (.putfield 20, 3) := by decide +kernel
theorem dX7_die_417 : decode cX7_die 417 = .ok (.iconst 0, 1) := by decide +kernel
theorem dX7_die_418 : decode cX7_die 418 = .ok (.istore 9, 2) := by decide +kernel
theorem dX7_die_420 : decode cX7_die 420 = .ok (.iconst 0, 1) := by decide +kernel
theorem dX7_die_421 : decode cX7_die 421 = .ok (.istore 10, 2) := by decide +kernel
theorem dX7_die_423 : decode cX7_die 423 = .ok (.iload 10, 2) := by decide +kernel
theorem dX7_die_425 : decode cX7_die 425 = .ok (.aload_n 0, 1) := by decide +kernel
theorem dX7_die_426 : decode cX7_die 426 = .ok (.getfield 10, 3) := by decide +kernel
theorem dX7_die_429 : decode cX7_die 429 = .ok (.getfield 63, 3) := by decide +kernel
theorem dX7_die_432 : decode cX7_die 432 = .ok (.if_icmp .ge 75, 3) := by decide +kernel
theorem dX7_die_435 : decode cX7_die 435 = .ok (.aload_n 0, 1) := by decide +kernel
theorem dX7_die_436 : decode cX7_die 436 = .ok (.getfield 10, 3) := by decide +kernel
theorem dX7_die_439 : decode cX7_die 439 = .ok (.getfield 66, 3) := by decide +kernel
theorem dX7_die_442 : decode cX7_die 442 = .ok (.iload 10, 2) := by decide +kernel
theorem dX7_die_444 : decode cX7_die 444 = .ok (.aaload, 1) := by decide +kernel
theorem dX7_die_445 : decode cX7_die 445 = .ok (.astore 11, 2) := by decide +kernel
theorem dX7_die_447 : decode cX7_die 447 = .ok (.aload 11, 2) := by decide +kernel
theorem dX7_die_449 : decode cX7_die 449 = .ok (.iconst 0, 1) := by decide +kernel
theorem dX7_die_450 : decode cX7_die 450 = .ok (.iaload, 1) := by decide +kernel
theorem dX7_die_451 : decode cX7_die 451 = .ok (.iload_n 1, 1) := by decide +kernel
theorem dX7_die_452 : decode cX7_die 452 = .ok (.if_icmp .eq 49, 3) := by decide +kernel
theorem dX7_die_455 : decode cX7_die 455 = .ok (.aload 11, 2) := by decide +kernel
theorem dX7_die_457 : decode cX7_die 457 = .ok (.iconst 1, 1) := by decide +kernel
theorem dX7_die_458 : decode cX7_die 458 = .ok (.iaload, 1) := by decide +kernel
theorem dX7_die_459 : decode cX7_die 459 = .ok (.iload_n 1, 1) := by decide +kernel
theorem dX7_die_460 : decode cX7_die 460 = .ok (.if_icmp .ne 6, 3) := by decide +kernel
theorem dX7_die_463 : decode cX7_die 463 = .ok (.goto 38, 3) := by decide +kernel
theorem dX7_die_466 : decode cX7_die 466 = .ok (.aload_n 0, 1) := by decide +kernel
theorem dX7_die_467 : decode cX7_die 467 = .ok (.getfield 10, 3) := by decide +kernel
theorem dX7_die_470 : decode cX7_die 470 = .ok (.getfield 66, 3) := by decide +kernel
theorem dX7_die_473 : decode cX7_die 473 = .ok (.iload 10, 2) := by decide +kernel
theorem dX7_die_475 : decode cX7_die 475 = .ok (.aload_n 0, 1) := by decide +kernel
theorem dX7_die_476 : decode cX7_die 476 = .ok (.getfield 10, 3) := by decide +kernel
theorem dX7_die_479 : decode cX7_die 479 = .ok (.getfield 66, 3) := by decide +kernel
theorem dX7_die_482 : decode cX7_die 482 = .ok (.iload 9, 2) := by decide +kernel
theorem dX7_die_484 : decode cX7_die 484 = .ok (.aaload, 1) := by decide +kernel
theorem dX7_die_485 : decode cX7_die 485 = .ok (.aastore, 1) := by decide +kernel
theorem dX7_die_486 : decode cX7_die 486 = .ok (.aload_n 0, 1) := by decide +kernel
theorem dX7_die_487 : decode cX7_die 487 = .ok (.getfield 10, 3) := by decide +kernel
theorem dX7_die_490 : decode cX7_die 490 = .ok (.getfield 66, 3) := by decide +kernel
theorem dX7_die_493 : decode cX7_die 493 = .ok (.iload 9, 2) := by decide +kernel
theorem dX7_die_495 : decode cX7_die 495 = .ok (.iinc 9 1, 3) := by decide +kernel
theorem dX7_die_498 : decode cX7_die 498 = .ok (.aload 11, 2) := by decide +kernel
theorem dX7_die_500 : decode cX7_die 500 = .ok (.aastore, 1) := by decide +kernel
theorem dX7_die_501 : decode cX7_die 501 = .ok (.iinc 10 1, 3) := by decide +kernel
theorem dX7_die_504 : decode cX7_die 504 = .ok (.goto (-81), 3) := by decide +kernel
theorem dX7_die_507 : decode cX7_die 507 = .ok (.aload_n 0, 1) := by decide +kernel
theorem dX7_die_508 : decode cX7_die 508 = .ok (.getfield 10, 3) := by decide +kernel
theorem dX7_die_511 : decode cX7_die 511 = .ok (.iload 9, 2) := by decide +kernel
theorem dX7_die_513 : decode cX7_die 513 = .ok (.putfield 63, 3) := by decide +kernel
theorem dX7_die_516 : decode cX7_die 516 = .ok (.iconst 0, 1) := by decide +kernel
theorem dX7_die_517 : decode cX7_die 517 = .ok (.istore 10, 2) := by decide +kernel
theorem dX7_die_519 : decode cX7_die 519 = .ok (.iload 10, 2) := by decide +kernel
theorem dX7_die_521 : decode cX7_die 521 = .ok (.aload_n 0, 1) := by decide +kernel
theorem dX7_die_522 : decode cX7_die 522 = .ok (.getfield 10, 3) := by decide +kernel
theorem dX7_die_525 : decode cX7_die 525 = .ok (.getfield 76, 3) := by decide +kernel
theorem dX7_die_528 : decode cX7_die 528 = .ok (.if_icmp .ge 56, 3) := by decide +kernel
theorem dX7_die_531 : decode cX7_die 531 = .ok (.iconst 0, 1) := by decide +kernel
theorem dX7_die_532 : decode cX7_die 532 = .ok (.istore 11, 2) := by decide +kernel
theorem dX7_die_534 : decode cX7_die 534 = .ok (.iload 11, 2) := by decide +kernel
theorem dX7_die_536 : decode cX7_die 536 = .ok (.iconst 2, 1) := by decide +kernel
theorem dX7_die_537 : decode cX7_die 537 = .ok (.if_icmp .ge 41, 3) := by decide +kernel
theorem dX7_die_540 : decode cX7_die 540 = .ok (.aload_n 0, 1) := by decide +kernel
theorem dX7_die_541 : decode cX7_die 541 = .ok (.getfield 10, 3) := by decide +kernel
theorem dX7_die_544 : decode cX7_die 544 = .ok (.getfield 79, 3) := by decide +kernel
theorem dX7_die_547 : decode cX7_die 547 = .ok (.iload 10, 2) := by decide +kernel
theorem dX7_die_549 : decode cX7_die 549 = .ok (.aaload, 1) := by decide +kernel
theorem dX7_die_550 : decode cX7_die 550 = .ok (.iload 11, 2) := by decide +kernel
theorem dX7_die_552 : decode cX7_die 552 = .ok (.iaload, 1) := by decide +kernel
theorem dX7_die_553 : decode cX7_die 553 = .ok (.iload_n 1, 1) := by decide +kernel
theorem dX7_die_554 : decode cX7_die 554 = .ok (.if_icmp .ne 18, 3) := by decide +kernel
theorem dX7_die_557 : decode cX7_die 557 = .ok (.aload_n 0, 1) := by decide +kernel
theorem dX7_die_558 : decode cX7_die 558 = .ok (.getfield 10, 3) := by decide +kernel
theorem dX7_die_561 : decode cX7_die 561 = .ok (.getfield 79, 3) := by decide +kernel
theorem dX7_die_564 : decode cX7_die 564 = .ok (.iload 10, 2) := by decide +kernel
theorem dX7_die_566 : decode cX7_die 566 = .ok (.aaload, 1) := by decide +kernel
theorem dX7_die_567 : decode cX7_die 567 = .ok (.iload 11, 2) := by decide +kernel
theorem dX7_die_569 : decode cX7_die 569 = .ok (.iload 7, 2) := by decide +kernel
theorem dX7_die_571 : decode cX7_die 571 = .ok (.iastore, 1) := by decide +kernel
theorem dX7_die_572 : decode cX7_die 572 = .ok (.iinc 11 1, 3) := by decide +kernel
theorem dX7_die_575 : decode cX7_die 575 = .ok (.goto (-41), 3) := by decide +kernel
theorem dX7_die_578 : decode cX7_die 578 = .ok (.iinc 10 1, 3) := by decide +kernel
theorem dX7_die_581 : decode cX7_die 581 = .ok (.goto (-62), 3) := by decide +kernel
theorem dX7_die_584 : decode cX7_die 584 = .ok (.iload 7, 2) := by decide +kernel
theorem dX7_die_586 : decode cX7_die 586 = .ok (.ireturn, 1) := by decide +kernel
theorem dX7_pay_0 : decode cX7_pay 0 = .ok (.aload_n 0, 1) := by decide +kernel
theorem dX7_pay_1 : decode cX7_pay 1 = .ok (.getfield 10, 3) := by decide +kernel
theorem dX7_pay_4 : decode cX7_pay 4 = .ok (.invokevirtual 35, 3) := by decide +kernel
theorem dX7_pay_7 : decode cX7_pay 7 = .ok (.istore_n 2, 1) := by decide +kernel
theorem dX7_pay_8 : decode cX7_pay 8 = .ok (.iload_n 1, 1) := by decide +kernel
theorem dX7_pay_9 : decode cX7_pay 9 = .ok (.istore_n 3, 1) := by decide +kernel
theorem dX7_pay_10 : decode cX7_pay 10 = .ok (.iconst 0, 1) := by decide +kernel
theorem dX7_pay_11 : decode cX7_pay 11 = .ok (.istore 4, 2) := by decide +kernel
theorem dX7_pay_13 : decode cX7_pay 13 = .ok (.iload 4, 2) := by decide +kernel
theorem dX7_pay_15 : decode cX7_pay 15 = .ok (.aload_n 0, 1) := by decide +kernel
theorem dX7_pay_16 : decode cX7_pay 16 = .ok (.getfield 10, 3) := by decide +kernel
theorem dX7_pay_19 : decode cX7_pay 19 = .ok (.getfield 53, 3) := by decide +kernel
theorem dX7_pay_22 : decode cX7_pay 22 = .ok (.if_icmp .ge 51, 3) := by decide +kernel
theorem dX7_pay_25 : decode cX7_pay 25 = .ok (.aload_n 0, 1) := by decide +kernel
theorem dX7_pay_26 : decode cX7_pay 26 = .ok (.aload_n 0, 1) := by decide +kernel
theorem dX7_pay_27 : decode cX7_pay 27 = .ok (.getfield 10, 3) := by decide +kernel
theorem dX7_pay_30 : decode cX7_pay 30 = .ok (.getfield 49, 3) := by decide +kernel
theorem dX7_pay_33 : decode cX7_pay 33 = .ok (.iload 4, 2) := by decide +kernel
theorem dX7_pay_35 : decode cX7_pay 35 = .ok (.iaload, 1) := by decide +kernel
theorem dX7_pay_36 : decode cX7_pay 36 = .ok (.invokevirtual 39, 3) := by decide +kernel
theorem dX7_pay_39 : decode cX7_pay 39 = .ok (.astore 5, 2) := by decide +kernel
theorem dX7_pay_41 : decode cX7_pay 41 = .ok (.aload 5, 2) := by decide +kernel
theorem dX7_pay_43 : decode cX7_pay 43 = .ok (.iconst 1, 1) := by decide +kernel
theorem dX7_pay_44 : decode cX7_pay 44 = .ok (.dup2, 1) := by decide +kernel
theorem dX7_pay_45 : decode cX7_pay 45 = .ok (.iaload, 1) := by decide +kernel
theorem dX7_pay_46 : decode cX7_pay 46 = .ok (.iload_n 1, 1) := by decide +kernel
theorem dX7_pay_47 : decode cX7_pay 47 = .ok (.aload 5, 2) := by decide +kernel
theorem dX7_pay_49 : decode cX7_pay 49 = .ok (.iconst 0, 1) := by decide +kernel
theorem dX7_pay_50 : decode cX7_pay 50 = .ok (.iaload, 1) := by decide +kernel
theorem dX7_pay_51 : decode cX7_pay 51 = .ok (.imul, 1) := by decide +kernel
theorem dX7_pay_52 : decode cX7_pay 52 = .ok (.iload_n 2, 1) := by decide +kernel
theorem dX7_pay_53 : decode cX7_pay 53 = .ok (.idiv, 1) := by decide +kernel
theorem dX7_pay_54 : decode cX7_pay 54 = .ok (.isub, 1) := by decide +kernel
theorem dX7_pay_55 : decode cX7_pay 55 = .ok (.iastore, 1) := by decide +kernel
theorem dX7_pay_56 : decode cX7_pay 56 = .ok (.iload_n 3, 1) := by decide +kernel
theorem dX7_pay_57 : decode cX7_pay 57 = .ok (.iload_n 1, 1) := by decide +kernel
theorem dX7_pay_58 : decode cX7_pay 58 = .ok (.aload 5, 2) := by decide +kernel
theorem dX7_pay_60 : decode cX7_pay 60 = .ok (.iconst 0, 1) := by decide +kernel
theorem dX7_pay_61 : decode cX7_pay 61 = .ok (.iaload, 1) := by decide +kernel
theorem dX7_pay_62 : decode cX7_pay 62 = .ok (.imul, 1) := by decide +kernel
theorem dX7_pay_63 : decode cX7_pay 63 = .ok (.iload_n 2, 1) := by decide +kernel
theorem dX7_pay_64 : decode cX7_pay 64 = .ok (.idiv, 1) := by decide +kernel
theorem dX7_pay_65 : decode cX7_pay 65 = .ok (.isub, 1) := by decide +kernel
theorem dX7_pay_66 : decode cX7_pay 66 = .ok (.istore_n 3, 1) := by decide +kernel
theorem dX7_pay_67 : decode cX7_pay 67 = .ok (.iinc 4 1, 3) := by decide +kernel
theorem dX7_pay_70 : decode cX7_pay 70 = .ok (.goto (-57), 3) := by decide +kernel
theorem dX7_pay_73 : decode cX7_pay 73 = .ok (.aload_n 0, 1) := by decide +kernel
theorem dX7_pay_74 : decode cX7_pay 74 = .ok (.aload_n 0, 1) := by decide +kernel
theorem dX7_pay_75 : decode cX7_pay 75 = .ok (.getfield 10, 3) := by decide +kernel
theorem dX7_pay_78 : decode cX7_pay 78 = .ok (.getfield 49, 3) := by decide +kernel
theorem dX7_pay_81 : decode cX7_pay 81 = .ok (.iconst 0, 1) := by decide +kernel
theorem dX7_pay_82 : decode cX7_pay 82 = .ok (.iaload, 1) := by decide +kernel
theorem dX7_pay_83 : decode cX7_pay 83 = .ok (.invokevirtual 39, 3) := by decide +kernel
theorem dX7_pay_86 : decode cX7_pay 86 = .ok (.iconst 1, 1) := by decide +kernel
theorem dX7_pay_87 : decode cX7_pay 87 = .ok (.dup2, 1) := by decide +kernel
theorem dX7_pay_88 : decode cX7_pay 88 = .ok (.iaload, 1) := by decide +kernel
theorem dX7_pay_89 : decode cX7_pay 89 = .ok (.iload_n 3, 1) := by decide +kernel
theorem dX7_pay_90 : decode cX7_pay 90 = .ok (.isub, 1) := by decide +kernel
theorem dX7_pay_91 : decode cX7_pay 91 = .ok (.iastore, 1) := by decide +kernel
theorem dX7_pay_92 : decode cX7_pay 92 = .ok (.iload_n 1, 1) := by decide +kernel
theorem dX7_pay_93 : decode cX7_pay 93 = .ok (.ireturn, 1) := by decide +kernel
theorem dX7_dig_0 : decode cX7_dig 0 = .ok (.aload_n 0, 1) := by decide +kernel
theorem dX7_dig_1 : decode cX7_dig 1 = .ok (.iconst 0, 1) := by decide +kernel
theorem dX7_dig_2 : decode cX7_dig 2 = .ok (.putfield 16, 3) := by decide +kernel
theorem dX7_dig_5 : decode cX7_dig 5 = .ok (.iload_n 1, 1) := by decide +kernel
theorem dX7_dig_6 : decode cX7_dig 6 = .ok (.iconst 1, 1) := by decide +kernel
theorem dX7_dig_7 : decode cX7_dig 7 = .ok (.bipush 80, 2) := by decide +kernel
theorem dX7_dig_9 : decode cX7_dig 9 = .ok (.invokestatic 23, 3) := by decide +kernel
theorem dX7_dig_12 : decode cX7_dig 12 = .ok (.ifCond .ne 9, 3) := by decide +kernel
theorem dX7_dig_15 : decode cX7_dig 15 = .ok (.aload_n 0, 1) := by decide +kernel
theorem dX7_dig_16 : decode cX7_dig 16 = .ok (.iconst 1, 1) := by decide +kernel
theorem dX7_dig_17 : decode cX7_dig 17 = .ok (.invokevirtual 31, 3) := by decide +kernel
theorem dX7_dig_20 : decode cX7_dig 20 = .ok (.ireturn, 1) := by decide +kernel
theorem dX7_dig_21 : decode cX7_dig 21 = .ok (.aload_n 0, 1) := by decide +kernel
theorem dX7_dig_22 : decode cX7_dig 22 = .ok (.getfield 10, 3) := by decide +kernel
theorem dX7_dig_25 : decode cX7_dig 25 = .ok (.getfield 82, 3) := by decide +kernel
theorem dX7_dig_28 : decode cX7_dig 28 = .ok (.iload_n 1, 1) := by decide +kernel
theorem dX7_dig_29 : decode cX7_dig 29 = .ok (.iadd, 1) := by decide +kernel
theorem dX7_dig_30 : decode cX7_dig 30 = .ok (.bipush 90, 2) := by decide +kernel
theorem dX7_dig_32 : decode cX7_dig 32 = .ok (.if_icmp .gt 13, 3) := by decide +kernel
theorem dX7_dig_35 : decode cX7_dig 35 = .ok (.aload_n 0, 1) := by decide +kernel
theorem dX7_dig_36 : decode cX7_dig 36 = .ok (.getfield 10, 3) := by decide +kernel
theorem dX7_dig_39 : decode cX7_dig 39 = .ok (.invokevirtual 35, 3) := by decide +kernel
theorem dX7_dig_42 : decode cX7_dig 42 = .ok (.ifCond .ne 9, 3) := by decide +kernel
theorem dX7_dig_45 : decode cX7_dig 45 = .ok (.aload_n 0, 1) := by decide +kernel
theorem dX7_dig_46 : decode cX7_dig 46 = .ok (.iconst 2, 1) := by decide +kernel
theorem dX7_dig_47 : decode cX7_dig 47 = .ok (.invokevirtual 31, 3) := by decide +kernel
theorem dX7_dig_50 : decode cX7_dig 50 = .ok (.ireturn, 1) := by decide +kernel
theorem dX7_dig_51 : decode cX7_dig 51 = .ok (.iload_n 1, 1) := by decide +kernel
theorem dX7_dig_52 : decode cX7_dig 52 = .ok (.iconst 5, 1) := by decide +kernel
theorem dX7_dig_53 : decode cX7_dig 53 = .ok (.aload_n 0, 1) := by decide +kernel
theorem dX7_dig_54 : decode cX7_dig 54 = .ok (.getfield 10, 3) := by decide +kernel
theorem dX7_dig_57 : decode cX7_dig 57 = .ok (.getfield 82, 3) := by decide +kernel
theorem dX7_dig_60 : decode cX7_dig 60 = .ok (.bipush 10, 2) := by decide +kernel
theorem dX7_dig_62 : decode cX7_dig 62 = .ok (.idiv, 1) := by decide +kernel
theorem dX7_dig_63 : decode cX7_dig 63 = .ok (.iadd, 1) := by decide +kernel
theorem dX7_dig_64 : decode cX7_dig 64 = .ok (.imul, 1) := by decide +kernel
theorem dX7_dig_65 : decode cX7_dig 65 = .ok (.istore_n 2, 1) := by decide +kernel
theorem dX7_dig_66 : decode cX7_dig 66 = .ok (.aload_n 0, 1) := by decide +kernel
theorem dX7_dig_67 : decode cX7_dig 67 = .ok (.getfield 10, 3) := by decide +kernel
theorem dX7_dig_70 : decode cX7_dig 70 = .ok (.dup, 1) := by decide +kernel
theorem dX7_dig_71 : decode cX7_dig 71 = .ok (.getfield 82, 3) := by decide +kernel
theorem dX7_dig_74 : decode cX7_dig 74 = .ok (.iload_n 1, 1) := by decide +kernel
theorem dX7_dig_75 : decode cX7_dig 75 = .ok (.iadd, 1) := by decide +kernel
theorem dX7_dig_76 : decode cX7_dig 76 = .ok (.putfield 82, 3) := by decide +kernel
theorem dX7_dig_79 : decode cX7_dig 79 = .ok (.aload_n 0, 1) := by decide +kernel
theorem dX7_dig_80 : decode cX7_dig 80 = .ok (.iload_n 2, 1) := by decide +kernel
theorem dX7_dig_81 : decode cX7_dig 81 = .ok (.invokevirtual 85, 3) := by decide +kernel
theorem dX7_dig_84 : decode cX7_dig 84 = .ok (.ireturn, 1) := by decide +kernel
theorem dX7_clean_0 : decode cX7_clean 0 = .ok (.aload_n 0, 1) := by decide +kernel
theorem dX7_clean_1 : decode cX7_clean 1 = .ok (.iconst 0, 1) := by decide +kernel
theorem dX7_clean_2 : decode cX7_clean 2 = .ok (.putfield 16, 3) := by decide +kernel
theorem dX7_clean_5 : decode cX7_clean 5 = .ok (.iload_n 1, 1) := by decide +kernel
theorem dX7_clean_6 : decode cX7_clean 6 = .ok (.iconst 1, 1) := by decide +kernel
theorem dX7_clean_7 : decode cX7_clean 7 = .ok (.bipush 30, 2) := by decide +kernel
theorem dX7_clean_9 : decode cX7_clean 9 = .ok (.invokestatic 23, 3) := by decide +kernel
theorem dX7_clean_12 : decode cX7_clean 12 = .ok (.ifCond .ne 9, 3) := by decide +kernel
theorem dX7_clean_15 : decode cX7_clean 15 = .ok (.aload_n 0, 1) := by decide +kernel
theorem dX7_clean_16 : decode cX7_clean 16 = .ok (.iconst 1, 1) := by decide +kernel
theorem dX7_clean_17 : decode cX7_clean 17 = .ok (.invokevirtual 31, 3) := by decide +kernel
theorem dX7_clean_20 : decode cX7_clean 20 = .ok (.ireturn, 1) := by decide +kernel
theorem dX7_clean_21 : decode cX7_clean 21 = .ok (.iload_n 1, 1) := by decide +kernel
theorem dX7_clean_22 : decode cX7_clean 22 = .ok (.aload_n 0, 1) := by decide +kernel
theorem dX7_clean_23 : decode cX7_clean 23 = .ok (.getfield 10, 3) := by decide +kernel
theorem dX7_clean_26 : decode cX7_clean 26 = .ok (.getfield 88, 3) := by decide +kernel
theorem dX7_clean_29 : decode cX7_clean 29 = .ok (.if_icmp .gt 13, 3) := by decide +kernel
theorem dX7_clean_32 : decode cX7_clean 32 = .ok (.aload_n 0, 1) := by decide +kernel
theorem dX7_clean_33 : decode cX7_clean 33 = .ok (.getfield 10, 3) := by decide +kernel
theorem dX7_clean_36 : decode cX7_clean 36 = .ok (.invokevirtual 35, 3) := by decide +kernel
theorem dX7_clean_39 : decode cX7_clean 39 = .ok (.ifCond .ne 9, 3) := by decide +kernel
theorem dX7_clean_42 : decode cX7_clean 42 = .ok (.aload_n 0, 1) := by decide +kernel
theorem dX7_clean_43 : decode cX7_clean 43 = .ok (.iconst 2, 1) := by decide +kernel
theorem dX7_clean_44 : decode cX7_clean 44 = .ok (.invokevirtual 31, 3) := by decide +kernel
theorem dX7_clean_47 : decode cX7_clean 47 = .ok (.ireturn, 1) := by decide +kernel
theorem dX7_clean_48 : decode cX7_clean 48 = .ok (.aload_n 0, 1) := by decide +kernel
theorem dX7_clean_49 : decode cX7_clean 49 = .ok (.getfield 10, 3) := by decide +kernel
theorem dX7_clean_52 : decode cX7_clean 52 = .ok (.dup, 1) := by decide +kernel
theorem dX7_clean_53 : decode cX7_clean 53 = .ok (.getfield 88, 3) := by decide +kernel
theorem dX7_clean_56 : decode cX7_clean 56 = .ok (.iload_n 1, 1) := by decide +kernel
theorem dX7_clean_57 : decode cX7_clean 57 = .ok (.isub, 1) := by decide +kernel
theorem dX7_clean_58 : decode cX7_clean 58 = .ok (.putfield 88, 3) := by decide +kernel
theorem dX7_clean_61 : decode cX7_clean 61 = .ok (.aload_n 0, 1) := by decide +kernel
theorem dX7_clean_62 : decode cX7_clean 62 = .ok (.iconst 3, 1) := by decide +kernel
theorem dX7_clean_63 : decode cX7_clean 63 = .ok (.iload_n 1, 1) := by decide +kernel
theorem dX7_clean_64 : decode cX7_clean 64 = .ok (.imul, 1) := by decide +kernel
theorem dX7_clean_65 : decode cX7_clean 65 = .ok (.invokevirtual 85, 3) := by decide +kernel
theorem dX7_clean_68 : decode cX7_clean 68 = .ok (.ireturn, 1) := by decide +kernel
theorem dX7_fall_0 : decode cX7_fall 0 = .ok (.aload_n 0, 1) := by decide +kernel
theorem dX7_fall_1 : decode cX7_fall 1 = .ok (.iconst 0, 1) := by decide +kernel
theorem dX7_fall_2 : decode cX7_fall 2 = .ok (.putfield 16, 3) := by decide +kernel
theorem dX7_fall_5 : decode cX7_fall 5 = .ok (.iload_n 1, 1) := by decide +kernel
theorem dX7_fall_6 : decode cX7_fall 6 = .ok (.iconst 1, 1) := by decide +kernel
theorem dX7_fall_7 : decode cX7_fall 7 = .ok (.bipush 30, 2) := by decide +kernel
theorem dX7_fall_9 : decode cX7_fall 9 = .ok (.invokestatic 23, 3) := by decide +kernel
theorem dX7_fall_12 : decode cX7_fall 12 = .ok (.ifCond .ne 9, 3) := by decide +kernel
theorem dX7_fall_15 : decode cX7_fall 15 = .ok (.aload_n 0, 1) := by decide +kernel
theorem dX7_fall_16 : decode cX7_fall 16 = .ok (.iconst 1, 1) := by decide +kernel
theorem dX7_fall_17 : decode cX7_fall 17 = .ok (.invokevirtual 31, 3) := by decide +kernel
theorem dX7_fall_20 : decode cX7_fall 20 = .ok (.ireturn, 1) := by decide +kernel
theorem dX7_fall_21 : decode cX7_fall 21 = .ok (.aload_n 0, 1) := by decide +kernel
theorem dX7_fall_22 : decode cX7_fall 22 = .ok (.getfield 10, 3) := by decide +kernel
theorem dX7_fall_25 : decode cX7_fall 25 = .ok (.bipush 30, 2) := by decide +kernel
theorem dX7_fall_27 : decode cX7_fall 27 = .ok (.aload_n 0, 1) := by decide +kernel
theorem dX7_fall_28 : decode cX7_fall 28 = .ok (.getfield 10, 3) := by decide +kernel
theorem dX7_fall_31 : decode cX7_fall 31 = .ok (.getfield 88, 3) := by decide +kernel
theorem dX7_fall_34 : decode cX7_fall 34 = .ok (.iload_n 1, 1) := by decide +kernel
theorem dX7_fall_35 : decode cX7_fall 35 = .ok (.iadd, 1) := by decide +kernel
theorem dX7_fall_36 : decode cX7_fall 36 = .ok (.invokestatic 91, 3) := by decide +kernel
theorem dX7_fall_39 : decode cX7_fall 39 = .ok (.putfield 88, 3) := by decide +kernel
theorem dX7_fall_42 : decode cX7_fall 42 = .ok (.aload_n 0, 1) := by decide +kernel
theorem dX7_fall_43 : decode cX7_fall 43 = .ok (.getfield 10, 3) := by decide +kernel
theorem dX7_fall_46 : decode cX7_fall 46 = .ok (.getfield 88, 3) := by decide +kernel
theorem dX7_fall_49 : decode cX7_fall 49 = .ok (.ireturn, 1) := by decide +kernel
theorem dX7_pump_0 : decode cX7_pump 0 = .ok (.aload_n 0, 1) := by decide +kernel
theorem dX7_pump_1 : decode cX7_pump 1 = .ok (.iconst 0, 1) := by decide +kernel
theorem dX7_pump_2 : decode cX7_pump 2 = .ok (.putfield 16, 3) := by decide +kernel
theorem dX7_pump_5 : decode cX7_pump 5 = .ok (.iload_n 1, 1) := by decide +kernel
theorem dX7_pump_6 : decode cX7_pump 6 = .ok (.iconst 0, 1) := by decide +kernel
theorem dX7_pump_7 : decode cX7_pump 7 = .ok (.bipush 20, 2) := by decide +kernel
theorem dX7_pump_9 : decode cX7_pump 9 = .ok (.invokestatic 23, 3) := by decide +kernel
theorem dX7_pump_12 : decode cX7_pump 12 = .ok (.ifCond .ne 9, 3) := by decide +kernel
theorem dX7_pump_15 : decode cX7_pump 15 = .ok (.aload_n 0, 1) := by decide +kernel
theorem dX7_pump_16 : decode cX7_pump 16 = .ok (.iconst 1, 1) := by decide +kernel
theorem dX7_pump_17 : decode cX7_pump 17 = .ok (.invokevirtual 31, 3) := by decide +kernel
theorem dX7_pump_20 : decode cX7_pump 20 = .ok (.ireturn, 1) := by decide +kernel
theorem dX7_pump_21 : decode cX7_pump 21 = .ok (.aload_n 0, 1) := by decide +kernel
theorem dX7_pump_22 : decode cX7_pump 22 = .ok (.getfield 10, 3) := by decide +kernel
theorem dX7_pump_25 : decode cX7_pump 25 = .ok (.getfield 96, 3) := by decide +kernel
theorem dX7_pump_28 : decode cX7_pump 28 = .ok (.istore_n 2, 1) := by decide +kernel
theorem dX7_pump_29 : decode cX7_pump 29 = .ok (.aload_n 0, 1) := by decide +kernel
theorem dX7_pump_30 : decode cX7_pump 30 = .ok (.getfield 10, 3) := by decide +kernel
theorem dX7_pump_33 : decode cX7_pump 33 = .ok (.iload_n 1, 1) := by decide +kernel
theorem dX7_pump_34 : decode cX7_pump 34 = .ok (.putfield 96, 3) := by decide +kernel
theorem dX7_pump_37 : decode cX7_pump 37 = .ok (.iload_n 2, 1) := by decide +kernel
theorem dX7_pump_38 : decode cX7_pump 38 = .ok (.ireturn, 1) := by decide +kernel
theorem dX7_pollenOf_0 : decode cX7_pollenOf 0 = .ok (.bipush 20, 2) := by decide +kernel
theorem dX7_pollenOf_2 : decode cX7_pollenOf 2 = .ok (.aload_n 0, 1) := by decide +kernel
theorem dX7_pollenOf_3 : decode cX7_pollenOf 3 = .ok (.iconst 3, 1) := by decide +kernel
theorem dX7_pollenOf_4 : decode cX7_pollenOf 4 = .ok (.iaload, 1) := by decide +kernel
theorem dX7_pollenOf_5 : decode cX7_pollenOf 5 = .ok (.imul, 1) := by decide +kernel
theorem dX7_pollenOf_6 : decode cX7_pollenOf 6 = .ok (.aload_n 0, 1) := by decide +kernel
theorem dX7_pollenOf_7 : decode cX7_pollenOf 7 = .ok (.bipush 8, 2) := by decide +kernel
theorem dX7_pollenOf_9 : decode cX7_pollenOf 9 = .ok (.iaload, 1) := by decide +kernel
theorem dX7_pollenOf_10 : decode cX7_pollenOf 10 = .ok (.iadd, 1) := by decide +kernel
theorem dX7_pollenOf_11 : decode cX7_pollenOf 11 = .ok (.ireturn, 1) := by decide +kernel
theorem dX7_pollinate_0 : decode cX7_pollinate 0 = .ok (.aload_n 0, 1) := by decide +kernel
theorem dX7_pollinate_1 : decode cX7_pollinate 1 = .ok (.iconst 0, 1) := by decide +kernel
theorem dX7_pollinate_2 : decode cX7_pollinate 2 = .ok (.putfield 16, 3) := by decide +kernel
theorem dX7_pollinate_5 : decode cX7_pollinate 5 = .ok (.aload_n 0, 1) := by decide +kernel
theorem dX7_pollinate_6 : decode cX7_pollinate 6 = .ok (.iload_n 1, 1) := by decide +kernel
theorem dX7_pollinate_7 : decode cX7_pollinate 7 = .ok (.invokevirtual 56, 3) := by decide +kernel
theorem dX7_pollinate_10 : decode cX7_pollinate 10 = .ok (.ifCond .ne 9, 3) := by decide +kernel
theorem dX7_pollinate_13 : decode cX7_pollinate 13 = .ok (.aload_n 0, 1) := by decide +kernel
theorem dX7_pollinate_14 : decode cX7_pollinate 14 = .ok (.iconst 1, 1) := by decide +kernel
theorem dX7_pollinate_15 : decode cX7_pollinate 15 = .ok (.invokevirtual 31, 3) := by decide +kernel
theorem dX7_pollinate_18 : decode cX7_pollinate 18 = .ok (.ireturn, 1) := by decide +kernel
theorem dX7_pollinate_19 : decode cX7_pollinate 19 = .ok (.iload_n 2, 1) := by decide +kernel
theorem dX7_pollinate_20 : decode cX7_pollinate 20 = .ok (.iconst 1, 1) := by decide +kernel
theorem dX7_pollinate_21 : decode cX7_pollinate 21 = .ok (.sipush 200, 3) := by decide +kernel
theorem dX7_pollinate_24 : decode cX7_pollinate 24 = .ok (.invokestatic 23, 3) := by decide +kernel
theorem dX7_pollinate_27 : decode cX7_pollinate 27 = .ok (.ifCond .ne 9, 3) := by decide +kernel
theorem dX7_pollinate_30 : decode cX7_pollinate 30 = .ok (.aload_n 0, 1) := by decide +kernel
theorem dX7_pollinate_31 : decode cX7_pollinate 31 = .ok (.iconst 2, 1) := by decide +kernel
theorem dX7_pollinate_32 : decode cX7_pollinate 32 = .ok (.invokevirtual 31, 3) := by decide +kernel
theorem dX7_pollinate_35 : decode cX7_pollinate 35 = .ok (.ireturn, 1) := by decide +kernel
theorem dX7_pollinate_36 : decode cX7_pollinate 36 = .ok (.aload_n 0, 1) := by decide +kernel
theorem dX7_pollinate_37 : decode cX7_pollinate 37 = .ok (.iload_n 1, 1) := by decide +kernel
theorem dX7_pollinate_38 : decode cX7_pollinate 38 = .ok (.invokevirtual 39, 3) := by decide +kernel
theorem dX7_pollinate_41 : decode cX7_pollinate 41 = .ok (.astore_n 3, 1) := by decide +kernel
theorem dX7_pollinate_42 : decode cX7_pollinate 42 = .ok (.aload_n 0, 1) := by decide +kernel
theorem dX7_pollinate_43 : decode cX7_pollinate 43 = .ok (.getfield 10, 3) := by decide +kernel
theorem dX7_pollinate_46 : decode cX7_pollinate 46 = .ok (.getfield 99, 3) := by decide +kernel
theorem dX7_pollinate_49 : decode cX7_pollinate 49 = .ok (.bipush 70, 2) := by decide +kernel
theorem dX7_pollinate_51 : decode cX7_pollinate 51 = .ok (.irem, 1) := by decide +kernel
theorem dX7_pollinate_52 : decode cX7_pollinate 52 = .ok (.bipush 13, 2) := by decide +kernel
theorem dX7_pollinate_54 : decode cX7_pollinate 54 = .ok (.if_icmp .le 6, 3) := by decide +kernel
theorem dX7_pollinate_57 : decode cX7_pollinate 57 = .ok (.bipush (-2), 2) := by decide +kernel
theorem dX7_pollinate_59 : decode cX7_pollinate 59 = .ok (.ireturn, 1) := by decide +kernel
theorem dX7_pollinate_60 : decode cX7_pollinate 60 = .ok (.aload_n 3, 1) := by decide +kernel
theorem dX7_pollinate_61 : decode cX7_pollinate 61 = .ok (.bipush 7, 2) := by decide +kernel
theorem dX7_pollinate_63 : decode cX7_pollinate 63 = .ok (.iaload, 1) := by decide +kernel
theorem dX7_pollinate_64 : decode cX7_pollinate 64 = .ok (.iload_n 2, 1) := by decide +kernel
theorem dX7_pollinate_65 : decode cX7_pollinate 65 = .ok (.iadd, 1) := by decide +kernel
theorem dX7_pollinate_66 : decode cX7_pollinate 66 = .ok (.aload_n 3, 1) := by decide +kernel
theorem dX7_pollinate_67 : decode cX7_pollinate 67 = .ok (.iconst 2, 1) := by decide +kernel
theorem dX7_pollinate_68 : decode cX7_pollinate 68 = .ok (.iaload, 1) := by decide +kernel
theorem dX7_pollinate_69 : decode cX7_pollinate 69 = .ok (.if_icmp .le 6, 3) := by decide +kernel
theorem dX7_pollinate_72 : decode cX7_pollinate 72 = .ok (.bipush (-3), 2) := by decide +kernel
theorem dX7_pollinate_74 : decode cX7_pollinate 74 = .ok (.ireturn, 1) := by decide +kernel
theorem dX7_pollinate_75 : decode cX7_pollinate 75 = .ok (.aload_n 3, 1) := by decide +kernel
theorem dX7_pollinate_76 : decode cX7_pollinate 76 = .ok (.bipush 7, 2) := by decide +kernel
theorem dX7_pollinate_78 : decode cX7_pollinate 78 = .ok (.iaload, 1) := by decide +kernel
theorem dX7_pollinate_79 : decode cX7_pollinate 79 = .ok (.iload_n 2, 1) := by decide +kernel
theorem dX7_pollinate_80 : decode cX7_pollinate 80 = .ok (.iadd, 1) := by decide +kernel
theorem dX7_pollinate_81 : decode cX7_pollinate 81 = .ok (.aload_n 3, 1) := by decide +kernel
theorem dX7_pollinate_82 : decode cX7_pollinate 82 = .ok (.invokestatic 102, 3) := by decide +kernel
theorem dX7_pollinate_85 : decode cX7_pollinate 85 = .ok (.if_icmp .le 6, 3) := by decide +kernel
theorem dX7_pollinate_88 : decode cX7_pollinate 88 = .ok (.bipush (-4), 2) := by decide +kernel
theorem dX7_pollinate_90 : decode cX7_pollinate 90 = .ok (.ireturn, 1) := by decide +kernel
theorem dX7_pollinate_91 : decode cX7_pollinate 91 = .ok (.aload_n 3, 1) := by decide +kernel
theorem dX7_pollinate_92 : decode cX7_pollinate 92 = .ok (.bipush 7, 2) := by decide +kernel
theorem dX7_pollinate_94 : decode cX7_pollinate 94 = .ok (.dup2, 1) := by decide +kernel
theorem dX7_pollinate_95 : decode cX7_pollinate 95 = .ok (.iaload, 1) := by decide +kernel
theorem dX7_pollinate_96 : decode cX7_pollinate 96 = .ok (.iload_n 2, 1) := by decide +kernel
theorem dX7_pollinate_97 : decode cX7_pollinate 97 = .ok (.iadd, 1) := by decide +kernel
theorem dX7_pollinate_98 : decode cX7_pollinate 98 = .ok (.iastore, 1) := by decide +kernel
theorem dX7_pollinate_99 : decode cX7_pollinate 99 = .ok (.aload_n 3, 1) := by decide +kernel
theorem dX7_pollinate_100 : decode cX7_pollinate 100 = .ok (.bipush 7, 2) := by decide +kernel
theorem dX7_pollinate_102 : decode cX7_pollinate 102 = .ok (.iaload, 1) := by decide +kernel
theorem dX7_pollinate_103 : decode cX7_pollinate 103 = .ok (.ireturn, 1) := by decide +kernel
theorem dX7_pollen_0 : decode cX7_pollen 0 = .ok (.aload_n 0, 1) := by decide +kernel
theorem dX7_pollen_1 : decode cX7_pollen 1 = .ok (.iconst 0, 1) := by decide +kernel
theorem dX7_pollen_2 : decode cX7_pollen 2 = .ok (.putfield 16, 3) := by decide +kernel
theorem dX7_pollen_5 : decode cX7_pollen 5 = .ok (.aload_n 0, 1) := by decide +kernel
theorem dX7_pollen_6 : decode cX7_pollen 6 = .ok (.iload_n 1, 1) := by decide +kernel
theorem dX7_pollen_7 : decode cX7_pollen 7 = .ok (.invokevirtual 56, 3) := by decide +kernel
theorem dX7_pollen_10 : decode cX7_pollen 10 = .ok (.ifCond .eq 11, 3) := by decide +kernel
theorem dX7_pollen_13 : decode cX7_pollen 13 = .ok (.aload_n 0, 1) := by decide +kernel
theorem dX7_pollen_14 : decode cX7_pollen 14 = .ok (.iload_n 2, 1) := by decide +kernel
theorem dX7_pollen_15 : decode cX7_pollen 15 = .ok (.invokevirtual 56, 3) := by decide +kernel
theorem dX7_pollen_18 : decode cX7_pollen 18 = .ok (.ifCond .ne 9, 3) := by decide +kernel
theorem dX7_pollen_21 : decode cX7_pollen 21 = .ok (.aload_n 0, 1) := by decide +kernel
theorem dX7_pollen_22 : decode cX7_pollen 22 = .ok (.iconst 1, 1) := by decide +kernel
theorem dX7_pollen_23 : decode cX7_pollen 23 = .ok (.invokevirtual 31, 3) := by decide +kernel
theorem dX7_pollen_26 : decode cX7_pollen 26 = .ok (.ireturn, 1) := by decide +kernel
theorem dX7_pollen_27 : decode cX7_pollen 27 = .ok (.iload_n 1, 1) := by decide +kernel
theorem dX7_pollen_28 : decode cX7_pollen 28 = .ok (.iload_n 2, 1) := by decide +kernel
theorem dX7_pollen_29 : decode cX7_pollen 29 = .ok (.if_icmp .eq 14, 3) := by decide +kernel
theorem dX7_pollen_32 : decode cX7_pollen 32 = .ok (.iload_n 3, 1) := by decide +kernel
theorem dX7_pollen_33 : decode cX7_pollen 33 = .ok (.iconst 1, 1) := by decide +kernel
theorem dX7_pollen_34 : decode cX7_pollen 34 = .ok (.sipush 200, 3) := by decide +kernel
theorem dX7_pollen_37 : decode cX7_pollen 37 = .ok (.invokestatic 23, 3) := by decide +kernel
theorem dX7_pollen_40 : decode cX7_pollen 40 = .ok (.ifCond .ne 9, 3) := by decide +kernel
theorem dX7_pollen_43 : decode cX7_pollen 43 = .ok (.aload_n 0, 1) := by decide +kernel
theorem dX7_pollen_44 : decode cX7_pollen 44 = .ok (.iconst 2, 1) := by decide +kernel
theorem dX7_pollen_45 : decode cX7_pollen 45 = .ok (.invokevirtual 31, 3) := by decide +kernel
theorem dX7_pollen_48 : decode cX7_pollen 48 = .ok (.ireturn, 1) := by decide +kernel
theorem dX7_pollen_49 : decode cX7_pollen 49 = .ok (.aload_n 0, 1) := by decide +kernel
theorem dX7_pollen_50 : decode cX7_pollen 50 = .ok (.iload_n 2, 1) := by decide +kernel
theorem dX7_pollen_51 : decode cX7_pollen 51 = .ok (.invokevirtual 39, 3) := by decide +kernel
theorem dX7_pollen_54 : decode cX7_pollen 54 = .ok (.iconst 1, 1) := by decide +kernel
theorem dX7_pollen_55 : decode cX7_pollen 55 = .ok (.iaload, 1) := by decide +kernel
theorem dX7_pollen_56 : decode cX7_pollen 56 = .ok (.iload_n 3, 1) := by decide +kernel
theorem dX7_pollen_57 : decode cX7_pollen 57 = .ok (.if_icmp .ge 6, 3) := by decide +kernel
theorem dX7_pollen_60 : decode cX7_pollen 60 = .ok (.bipush (-3), 2) := by decide +kernel
theorem dX7_pollen_62 : decode cX7_pollen 62 = .ok (.ireturn, 1) := by decide +kernel
theorem dX7_pollen_63 : decode cX7_pollen 63 = .ok (.aload_n 0, 1) := by decide +kernel
theorem dX7_pollen_64 : decode cX7_pollen 64 = .ok (.iload_n 1, 1) := by decide +kernel
theorem dX7_pollen_65 : decode cX7_pollen 65 = .ok (.invokevirtual 39, 3) := by decide +kernel
theorem dX7_pollen_68 : decode cX7_pollen 68 = .ok (.invokestatic 102, 3) := by decide +kernel
theorem dX7_pollen_71 : decode cX7_pollen 71 = .ok (.aload_n 0, 1) := by decide +kernel
theorem dX7_pollen_72 : decode cX7_pollen 72 = .ok (.iload_n 1, 1) := by decide +kernel
theorem dX7_pollen_73 : decode cX7_pollen 73 = .ok (.invokevirtual 39, 3) := by decide +kernel
theorem dX7_pollen_76 : decode cX7_pollen 76 = .ok (.bipush 7, 2) := by decide +kernel
theorem dX7_pollen_78 : decode cX7_pollen 78 = .ok (.iaload, 1) := by decide +kernel
theorem dX7_pollen_79 : decode cX7_pollen 79 = .ok (.isub, 1) := by decide +kernel
theorem dX7_pollen_80 : decode cX7_pollen 80 = .ok (.iload_n 3, 1) := by decide +kernel
theorem dX7_pollen_81 : decode cX7_pollen 81 = .ok (.if_icmp .ge 6, 3) := by decide +kernel
theorem dX7_pollen_84 : decode cX7_pollen 84 = .ok (.bipush (-4), 2) := by decide +kernel
theorem dX7_pollen_86 : decode cX7_pollen 86 = .ok (.ireturn, 1) := by decide +kernel
theorem dX7_pollen_87 : decode cX7_pollen 87 = .ok (.aload_n 0, 1) := by decide +kernel
theorem dX7_pollen_88 : decode cX7_pollen 88 = .ok (.iload_n 2, 1) := by decide +kernel
theorem dX7_pollen_89 : decode cX7_pollen 89 = .ok (.invokevirtual 39, 3) := by decide +kernel
theorem dX7_pollen_92 : decode cX7_pollen 92 = .ok (.iconst 1, 1) := by decide +kernel
theorem dX7_pollen_93 : decode cX7_pollen 93 = .ok (.dup2, 1) := by decide +kernel
theorem dX7_pollen_94 : decode cX7_pollen 94 = .ok (.iaload, 1) := by decide +kernel
theorem dX7_pollen_95 : decode cX7_pollen 95 = .ok (.iload_n 3, 1) := by decide +kernel
theorem dX7_pollen_96 : decode cX7_pollen 96 = .ok (.isub, 1) := by decide +kernel
theorem dX7_pollen_97 : decode cX7_pollen 97 = .ok (.iastore, 1) := by decide +kernel
theorem dX7_pollen_98 : decode cX7_pollen 98 = .ok (.aload_n 0, 1) := by decide +kernel
theorem dX7_pollen_99 : decode cX7_pollen 99 = .ok (.iload_n 1, 1) := by decide +kernel
theorem dX7_pollen_100 : decode cX7_pollen 100 = .ok (.invokevirtual 39, 3) := by decide +kernel
theorem dX7_pollen_103 : decode cX7_pollen 103 = .ok (.iconst 1, 1) := by decide +kernel
theorem dX7_pollen_104 : decode cX7_pollen 104 = .ok (.dup2, 1) := by decide +kernel
theorem dX7_pollen_105 : decode cX7_pollen 105 = .ok (.iaload, 1) := by decide +kernel
theorem dX7_pollen_106 : decode cX7_pollen 106 = .ok (.iload_n 3, 1) := by decide +kernel
theorem dX7_pollen_107 : decode cX7_pollen 107 = .ok (.iadd, 1) := by decide +kernel
theorem dX7_pollen_108 : decode cX7_pollen 108 = .ok (.iastore, 1) := by decide +kernel
theorem dX7_pollen_109 : decode cX7_pollen 109 = .ok (.aload_n 0, 1) := by decide +kernel
theorem dX7_pollen_110 : decode cX7_pollen 110 = .ok (.iload_n 1, 1) := by decide +kernel
theorem dX7_pollen_111 : decode cX7_pollen 111 = .ok (.invokevirtual 39, 3) := by decide +kernel
theorem dX7_pollen_114 : decode cX7_pollen 114 = .ok (.bipush 8, 2) := by decide +kernel
theorem dX7_pollen_116 : decode cX7_pollen 116 = .ok (.dup2, 1) := by decide +kernel
theorem dX7_pollen_117 : decode cX7_pollen 117 = .ok (.iaload, 1) := by decide +kernel
theorem dX7_pollen_118 : decode cX7_pollen 118 = .ok (.iload_n 3, 1) := by decide +kernel
theorem dX7_pollen_119 : decode cX7_pollen 119 = .ok (.isub, 1) := by decide +kernel
theorem dX7_pollen_120 : decode cX7_pollen 120 = .ok (.iastore, 1) := by decide +kernel
theorem dX7_pollen_121 : decode cX7_pollen 121 = .ok (.aload_n 0, 1) := by decide +kernel
theorem dX7_pollen_122 : decode cX7_pollen 122 = .ok (.iload_n 2, 1) := by decide +kernel
theorem dX7_pollen_123 : decode cX7_pollen 123 = .ok (.invokevirtual 39, 3) := by decide +kernel
theorem dX7_pollen_126 : decode cX7_pollen 126 = .ok (.bipush 8, 2) := by decide +kernel
theorem dX7_pollen_128 : decode cX7_pollen 128 = .ok (.dup2, 1) := by decide +kernel
theorem dX7_pollen_129 : decode cX7_pollen 129 = .ok (.iaload, 1) := by decide +kernel
theorem dX7_pollen_130 : decode cX7_pollen 130 = .ok (.iload_n 3, 1) := by decide +kernel
theorem dX7_pollen_131 : decode cX7_pollen 131 = .ok (.iadd, 1) := by decide +kernel
theorem dX7_pollen_132 : decode cX7_pollen 132 = .ok (.iastore, 1) := by decide +kernel
theorem dX7_pollen_133 : decode cX7_pollen 133 = .ok (.aload_n 0, 1) := by decide +kernel
theorem dX7_pollen_134 : decode cX7_pollen 134 = .ok (.iload_n 2, 1) := by decide +kernel
theorem dX7_pollen_135 : decode cX7_pollen 135 = .ok (.invokevirtual 39, 3) := by decide +kernel
theorem dX7_pollen_138 : decode cX7_pollen 138 = .ok (.invokestatic 102, 3) := by decide +kernel
theorem dX7_pollen_141 : decode cX7_pollen 141 = .ok (.ireturn, 1) := by decide +kernel
theorem dX7_ahead_0 : decode cX7_ahead 0 = .ok (.aload_n 0, 1) := by decide +kernel
theorem dX7_ahead_1 : decode cX7_ahead 1 = .ok (.iconst 0, 1) := by decide +kernel
theorem dX7_ahead_2 : decode cX7_ahead 2 = .ok (.putfield 16, 3) := by decide +kernel
theorem dX7_ahead_5 : decode cX7_ahead 5 = .ok (.aload_n 0, 1) := by decide +kernel
theorem dX7_ahead_6 : decode cX7_ahead 6 = .ok (.iload_n 1, 1) := by decide +kernel
theorem dX7_ahead_7 : decode cX7_ahead 7 = .ok (.invokevirtual 56, 3) := by decide +kernel
theorem dX7_ahead_10 : decode cX7_ahead 10 = .ok (.ifCond .eq 11, 3) := by decide +kernel
theorem dX7_ahead_13 : decode cX7_ahead 13 = .ok (.aload_n 0, 1) := by decide +kernel
theorem dX7_ahead_14 : decode cX7_ahead 14 = .ok (.iload_n 2, 1) := by decide +kernel
theorem dX7_ahead_15 : decode cX7_ahead 15 = .ok (.invokevirtual 56, 3) := by decide +kernel
theorem dX7_ahead_18 : decode cX7_ahead 18 = .ok (.ifCond .ne 9, 3) := by decide +kernel
theorem dX7_ahead_21 : decode cX7_ahead 21 = .ok (.aload_n 0, 1) := by decide +kernel
theorem dX7_ahead_22 : decode cX7_ahead 22 = .ok (.iconst 1, 1) := by decide +kernel
theorem dX7_ahead_23 : decode cX7_ahead 23 = .ok (.invokevirtual 31, 3) := by decide +kernel
theorem dX7_ahead_26 : decode cX7_ahead 26 = .ok (.ireturn, 1) := by decide +kernel
theorem dX7_ahead_27 : decode cX7_ahead 27 = .ok (.iload_n 1, 1) := by decide +kernel
theorem dX7_ahead_28 : decode cX7_ahead 28 = .ok (.iload_n 2, 1) := by decide +kernel
theorem dX7_ahead_29 : decode cX7_ahead 29 = .ok (.if_icmp .eq 26, 3) := by decide +kernel
theorem dX7_ahead_32 : decode cX7_ahead 32 = .ok (.iload_n 3, 1) := by decide +kernel
theorem dX7_ahead_33 : decode cX7_ahead 33 = .ok (.iconst 1, 1) := by decide +kernel
theorem dX7_ahead_34 : decode cX7_ahead 34 = .ok (.sipush 999, 3) := by decide +kernel
theorem dX7_ahead_37 : decode cX7_ahead 37 = .ok (.invokestatic 23, 3) := by decide +kernel
theorem dX7_ahead_40 : decode cX7_ahead 40 = .ok (.ifCond .eq 15, 3) := by decide +kernel
theorem dX7_ahead_43 : decode cX7_ahead 43 = .ok (.iload 4, 2) := by decide +kernel
theorem dX7_ahead_45 : decode cX7_ahead 45 = .ok (.iconst 0, 1) := by decide +kernel
theorem dX7_ahead_46 : decode cX7_ahead 46 = .ok (.sipush 9999, 3) := by decide +kernel
theorem dX7_ahead_49 : decode cX7_ahead 49 = .ok (.invokestatic 23, 3) := by decide +kernel
theorem dX7_ahead_52 : decode cX7_ahead 52 = .ok (.ifCond .ne 9, 3) := by decide +kernel
theorem dX7_ahead_55 : decode cX7_ahead 55 = .ok (.aload_n 0, 1) := by decide +kernel
theorem dX7_ahead_56 : decode cX7_ahead 56 = .ok (.iconst 2, 1) := by decide +kernel
theorem dX7_ahead_57 : decode cX7_ahead 57 = .ok (.invokevirtual 31, 3) := by decide +kernel
theorem dX7_ahead_60 : decode cX7_ahead 60 = .ok (.ireturn, 1) := by decide +kernel
theorem dX7_ahead_61 : decode cX7_ahead 61 = .ok (.aload_n 0, 1) := by decide +kernel
theorem dX7_ahead_62 : decode cX7_ahead 62 = .ok (.getfield 10, 3) := by decide +kernel
theorem dX7_ahead_65 : decode cX7_ahead 65 = .ok (.getfield 76, 3) := by decide +kernel
theorem dX7_ahead_68 : decode cX7_ahead 68 = .ok (.bipush 8, 2) := by decide +kernel
theorem dX7_ahead_70 : decode cX7_ahead 70 = .ok (.if_icmp .ne 9, 3) := by decide +kernel
theorem dX7_ahead_73 : decode cX7_ahead 73 = .ok (.aload_n 0, 1) := by decide +kernel
theorem dX7_ahead_74 : decode cX7_ahead 74 = .ok (.iconst 3, 1) := by decide +kernel
theorem dX7_ahead_75 : decode cX7_ahead 75 = .ok (.invokevirtual 31, 3) := by decide +kernel
theorem dX7_ahead_78 : decode cX7_ahead 78 = .ok (.ireturn, 1) := by decide +kernel
theorem dX7_ahead_79 : decode cX7_ahead 79 = .ok (.aload_n 0, 1) := by decide +kernel
theorem dX7_ahead_80 : decode cX7_ahead 80 = .ok (.iload_n 2, 1) := by decide +kernel
theorem dX7_ahead_81 : decode cX7_ahead 81 = .ok (.invokevirtual 39, 3) := by decide +kernel
theorem dX7_ahead_84 : decode cX7_ahead 84 = .ok (.iconst 1, 1) := by decide +kernel
theorem dX7_ahead_85 : decode cX7_ahead 85 = .ok (.iaload, 1) := by decide +kernel
theorem dX7_ahead_86 : decode cX7_ahead 86 = .ok (.iload 4, 2) := by decide +kernel
theorem dX7_ahead_88 : decode cX7_ahead 88 = .ok (.if_icmp .ge 6, 3) := by decide +kernel
theorem dX7_ahead_91 : decode cX7_ahead 91 = .ok (.bipush (-3), 2) := by decide +kernel
theorem dX7_ahead_93 : decode cX7_ahead 93 = .ok (.ireturn, 1) := by decide +kernel
theorem dX7_ahead_94 : decode cX7_ahead 94 = .ok (.aload_n 0, 1) := by decide +kernel
theorem dX7_ahead_95 : decode cX7_ahead 95 = .ok (.iload_n 2, 1) := by decide +kernel
theorem dX7_ahead_96 : decode cX7_ahead 96 = .ok (.invokevirtual 39, 3) := by decide +kernel
theorem dX7_ahead_99 : decode cX7_ahead 99 = .ok (.iconst 1, 1) := by decide +kernel
theorem dX7_ahead_100 : decode cX7_ahead 100 = .ok (.dup2, 1) := by decide +kernel
theorem dX7_ahead_101 : decode cX7_ahead 101 = .ok (.iaload, 1) := by decide +kernel
theorem dX7_ahead_102 : decode cX7_ahead 102 = .ok (.iload 4, 2) := by decide +kernel
theorem dX7_ahead_104 : decode cX7_ahead 104 = .ok (.isub, 1) := by decide +kernel
theorem dX7_ahead_105 : decode cX7_ahead 105 = .ok (.iastore, 1) := by decide +kernel
theorem dX7_ahead_106 : decode cX7_ahead 106 = .ok (.aload_n 0, 1) := by decide +kernel
theorem dX7_ahead_107 : decode cX7_ahead 107 = .ok (.iload_n 1, 1) := by decide +kernel
theorem dX7_ahead_108 : decode cX7_ahead 108 = .ok (.invokevirtual 39, 3) := by decide +kernel
theorem dX7_ahead_111 : decode cX7_ahead 111 = .ok (.iconst 1, 1) := by decide +kernel
theorem dX7_ahead_112 : decode cX7_ahead 112 = .ok (.dup2, 1) := by decide +kernel
theorem dX7_ahead_113 : decode cX7_ahead 113 = .ok (.iaload, 1) := by decide +kernel
theorem dX7_ahead_114 : decode cX7_ahead 114 = .ok (.iload 4, 2) := by decide +kernel
theorem dX7_ahead_116 : decode cX7_ahead 116 = .ok (.iadd, 1) := by decide +kernel
theorem dX7_ahead_117 : decode cX7_ahead 117 = .ok (.iastore, 1) := by decide +kernel
theorem dX7_ahead_118 : decode cX7_ahead 118 = .ok (.iconst 3, 1) := by decide +kernel
theorem dX7_ahead_119 : decode cX7_ahead 119 = .ok (.newarray .int, 2) := by decide +kernel
theorem dX7_ahead_121 : decode cX7_ahead 121 = .ok (.dup, 1) := by decide +kernel
theorem dX7_ahead_122 : decode cX7_ahead 122 = .ok (.iconst 0, 1) := by decide +kernel
theorem dX7_ahead_123 : decode cX7_ahead 123 = .ok (.iload_n 1, 1) := by decide +kernel
theorem dX7_ahead_124 : decode cX7_ahead 124 = .ok (.iastore, 1) := by decide +kernel
theorem dX7_ahead_125 : decode cX7_ahead 125 = .ok (.dup, 1) := by decide +kernel
theorem dX7_ahead_126 : decode cX7_ahead 126 = .ok (.iconst 1, 1) := by decide +kernel
theorem dX7_ahead_127 : decode cX7_ahead 127 = .ok (.iload_n 2, 1) := by decide +kernel
theorem dX7_ahead_128 : decode cX7_ahead 128 = .ok (.iastore, 1) := by decide +kernel
theorem dX7_ahead_129 : decode cX7_ahead 129 = .ok (.dup, 1) := by decide +kernel
theorem dX7_ahead_130 : decode cX7_ahead 130 = .ok (.iconst 2, 1) := by decide +kernel
theorem dX7_ahead_131 : decode cX7_ahead 131 = .ok (.iload_n 3, 1) := by decide +kernel
theorem dX7_ahead_132 : decode cX7_ahead 132 = .ok (.iastore, 1) := by decide +kernel
theorem dX7_ahead_133 : decode cX7_ahead 133 = .ok (.astore 5, 2) := by decide +kernel
theorem dX7_ahead_135 : decode cX7_ahead 135 = .ok (.aload 5, 2) := by decide +kernel
theorem dX7_ahead_137 : decode cX7_ahead 137 = .ok (.iconst 0, 1) := by decide +kernel
theorem dX7_ahead_138 : decode cX7_ahead 138 = .ok (.aload_n 0, 1) := by decide +kernel
theorem dX7_ahead_139 : decode cX7_ahead 139 = .ok (.getfield 10, 3) := by decide +kernel
theorem dX7_ahead_142 : decode cX7_ahead 142 = .ok (.getfield 79, 3) := by decide +kernel
theorem dX7_ahead_145 : decode cX7_ahead 145 = .ok (.aload_n 0, 1) := by decide +kernel
theorem dX7_ahead_146 : decode cX7_ahead 146 = .ok (.getfield 10, 3) := by decide +kernel
theorem dX7_ahead_149 : decode cX7_ahead 149 = .ok (.dup, 1) := by decide +kernel
theorem dX7_ahead_150 : decode cX7_ahead 150 = .ok (.getfield 76, 3) := by decide +kernel
theorem dX7_ahead_153 : decode cX7_ahead 153 = .ok (.dup_x1, 1) := by decide +kernel
theorem dX7_ahead_154 : decode cX7_ahead 154 = .ok (.iconst 1, 1) := by decide +kernel
theorem dX7_ahead_155 : decode cX7_ahead 155 = .ok (.iadd, 1) := by decide +kernel
theorem dX7_ahead_156 : decode cX7_ahead 156 = .ok (.putfield 76, 3) := by decide +kernel
theorem dX7_ahead_159 : decode cX7_ahead 159 = .ok (.aaload, 1) := by decide +kernel
theorem dX7_ahead_160 : decode cX7_ahead 160 = .ok (.iconst 0, 1) := by decide +kernel
theorem dX7_ahead_161 : decode cX7_ahead 161 = .ok (.iconst 3, 1) := by decide +kernel
theorem dX7_ahead_162 : decode cX7_ahead 162 = .ok (.invokestatic 43, 3) := by decide +kernel
theorem dX7_ahead_165 : decode cX7_ahead 165 = .ok (.aload_n 0, 1) := by decide +kernel
theorem dX7_ahead_166 : decode cX7_ahead 166 = .ok (.getfield 10, 3) := by decide +kernel
theorem dX7_ahead_169 : decode cX7_ahead 169 = .ok (.getfield 76, 3) := by decide +kernel
theorem dX7_ahead_172 : decode cX7_ahead 172 = .ok (.ireturn, 1) := by decide +kernel
theorem dX7_isTime_0 : decode cX7_isTime 0 = .ok (.iload_n 0, 1) := by decide +kernel
theorem dX7_isTime_1 : decode cX7_isTime 1 = .ok (.iconst 0, 1) := by decide +kernel
theorem dX7_isTime_2 : decode cX7_isTime 2 = .ok (.bipush 99, 2) := by decide +kernel
theorem dX7_isTime_4 : decode cX7_isTime 4 = .ok (.invokestatic 23, 3) := by decide +kernel
theorem dX7_isTime_7 : decode cX7_isTime 7 = .ok (.ifCond .eq 16, 3) := by decide +kernel
theorem dX7_isTime_10 : decode cX7_isTime 10 = .ok (.iload_n 1, 1) := by decide +kernel
theorem dX7_isTime_11 : decode cX7_isTime 11 = .ok (.iconst 1, 1) := by decide +kernel
theorem dX7_isTime_12 : decode cX7_isTime 12 = .ok (.iload_n 2, 1) := by decide +kernel
theorem dX7_isTime_13 : decode cX7_isTime 13 = .ok (.invokestatic 23, 3) := by decide +kernel
theorem dX7_isTime_16 : decode cX7_isTime 16 = .ok (.ifCond .eq 7, 3) := by decide +kernel
theorem dX7_isTime_19 : decode cX7_isTime 19 = .ok (.iconst 1, 1) := by decide +kernel
theorem dX7_isTime_20 : decode cX7_isTime 20 = .ok (.goto 4, 3) := by decide +kernel
theorem dX7_isTime_23 : decode cX7_isTime 23 = .ok (.iconst 0, 1) := by decide +kernel
theorem dX7_isTime_24 : decode cX7_isTime 24 = .ok (.ireturn, 1) := by decide +kernel
theorem dX7_pass_0 : decode cX7_pass 0 = .ok (.aload_n 0, 1) := by decide +kernel
theorem dX7_pass_1 : decode cX7_pass 1 = .ok (.iconst 0, 1) := by decide +kernel
theorem dX7_pass_2 : decode cX7_pass 2 = .ok (.putfield 16, 3) := by decide +kernel
theorem dX7_pass_5 : decode cX7_pass 5 = .ok (.iload_n 1, 1) := by decide +kernel
theorem dX7_pass_6 : decode cX7_pass 6 = .ok (.iload_n 2, 1) := by decide +kernel
theorem dX7_pass_7 : decode cX7_pass 7 = .ok (.bipush 70, 2) := by decide +kernel
theorem dX7_pass_9 : decode cX7_pass 9 = .ok (.invokestatic 106, 3) := by decide +kernel
theorem dX7_pass_12 : decode cX7_pass 12 = .ok (.ifCond .ne 9, 3) := by decide +kernel
theorem dX7_pass_15 : decode cX7_pass 15 = .ok (.aload_n 0, 1) := by decide +kernel
theorem dX7_pass_16 : decode cX7_pass 16 = .ok (.iconst 1, 1) := by decide +kernel
theorem dX7_pass_17 : decode cX7_pass 17 = .ok (.invokevirtual 31, 3) := by decide +kernel
theorem dX7_pass_20 : decode cX7_pass 20 = .ok (.ireturn, 1) := by decide +kernel
theorem dX7_pass_21 : decode cX7_pass 21 = .ok (.aload_n 0, 1) := by decide +kernel
theorem dX7_pass_22 : decode cX7_pass 22 = .ok (.getfield 10, 3) := by decide +kernel
theorem dX7_pass_25 : decode cX7_pass 25 = .ok (.getfield 99, 3) := by decide +kernel
theorem dX7_pass_28 : decode cX7_pass 28 = .ok (.iload_n 2, 1) := by decide +kernel
theorem dX7_pass_29 : decode cX7_pass 29 = .ok (.iadd, 1) := by decide +kernel
theorem dX7_pass_30 : decode cX7_pass 30 = .ok (.sipush 2000, 3) := by decide +kernel
theorem dX7_pass_33 : decode cX7_pass 33 = .ok (.if_icmp .le 9, 3) := by decide +kernel
theorem dX7_pass_36 : decode cX7_pass 36 = .ok (.aload_n 0, 1) := by decide +kernel
theorem dX7_pass_37 : decode cX7_pass 37 = .ok (.iconst 2, 1) := by decide +kernel
theorem dX7_pass_38 : decode cX7_pass 38 = .ok (.invokevirtual 31, 3) := by decide +kernel
theorem dX7_pass_41 : decode cX7_pass 41 = .ok (.ireturn, 1) := by decide +kernel
theorem dX7_pass_42 : decode cX7_pass 42 = .ok (.aload_n 0, 1) := by decide +kernel
theorem dX7_pass_43 : decode cX7_pass 43 = .ok (.getfield 10, 3) := by decide +kernel
theorem dX7_pass_46 : decode cX7_pass 46 = .ok (.iload_n 1, 1) := by decide +kernel
theorem dX7_pass_47 : decode cX7_pass 47 = .ok (.iload_n 2, 1) := by decide +kernel
theorem dX7_pass_48 : decode cX7_pass 48 = .ok (.invokevirtual 109, 3) := by decide +kernel
theorem dX7_pass_51 : decode cX7_pass 51 = .ok (.ireturn, 1) := by decide +kernel
theorem dX7_ownerNow_0 : decode cX7_ownerNow 0 = .ok (.aload_n 0, 1) := by decide +kernel
theorem dX7_ownerNow_1 : decode cX7_ownerNow 1 = .ok (.iload_n 1, 1) := by decide +kernel
theorem dX7_ownerNow_2 : decode cX7_ownerNow 2 = .ok (.invokevirtual 39, 3) := by decide +kernel
theorem dX7_ownerNow_5 : decode cX7_ownerNow 5 = .ok (.astore_n 3, 1) := by decide +kernel
theorem dX7_ownerNow_6 : decode cX7_ownerNow 6 = .ok (.iload_n 2, 1) := by decide +kernel
theorem dX7_ownerNow_7 : decode cX7_ownerNow 7 = .ok (.tableswitch 98 7 13 #[41, 50, 69, 78, 83, 88, 93], 41) := by decide +kernel
theorem dX7_ownerNow_48 : decode cX7_ownerNow 48 = .ok (.aload_n 0, 1) := by decide +kernel
theorem dX7_ownerNow_49 : decode cX7_ownerNow 49 = .ok (.getfield 10, 3) := by decide +kernel
theorem dX7_ownerNow_52 : decode cX7_ownerNow 52 = .ok (.iload_n 1, 1) := by decide +kernel
theorem dX7_ownerNow_53 : decode cX7_ownerNow 53 = .ok (.invokevirtual 73, 3) := by decide +kernel
theorem dX7_ownerNow_56 : decode cX7_ownerNow 56 = .ok (.ireturn, 1) := by decide +kernel
theorem dX7_ownerNow_57 : decode cX7_ownerNow 57 = .ok (.aload_n 3, 1) := by decide +kernel
theorem dX7_ownerNow_58 : decode cX7_ownerNow 58 = .ok (.iconst 0, 1) := by decide +kernel
theorem dX7_ownerNow_59 : decode cX7_ownerNow 59 = .ok (.iaload, 1) := by decide +kernel
theorem dX7_ownerNow_60 : decode cX7_ownerNow 60 = .ok (.ifCond .ne 7, 3) := by decide +kernel
theorem dX7_ownerNow_63 : decode cX7_ownerNow 63 = .ok (.iconst (-1), 1) := by decide +kernel
theorem dX7_ownerNow_64 : decode cX7_ownerNow 64 = .ok (.goto 11, 3) := by decide +kernel
theorem dX7_ownerNow_67 : decode cX7_ownerNow 67 = .ok (.aload_n 0, 1) := by decide +kernel
theorem dX7_ownerNow_68 : decode cX7_ownerNow 68 = .ok (.getfield 10, 3) := by decide +kernel
theorem dX7_ownerNow_71 : decode cX7_ownerNow 71 = .ok (.iload_n 1, 1) := by decide +kernel
theorem dX7_ownerNow_72 : decode cX7_ownerNow 72 = .ok (.invokevirtual 112, 3) := by decide +kernel
theorem dX7_ownerNow_75 : decode cX7_ownerNow 75 = .ok (.ireturn, 1) := by decide +kernel
theorem dX7_ownerNow_76 : decode cX7_ownerNow 76 = .ok (.aload_n 0, 1) := by decide +kernel
theorem dX7_ownerNow_77 : decode cX7_ownerNow 77 = .ok (.getfield 10, 3) := by decide +kernel
theorem dX7_ownerNow_80 : decode cX7_ownerNow 80 = .ok (.iload_n 1, 1) := by decide +kernel
theorem dX7_ownerNow_81 : decode cX7_ownerNow 81 = .ok (.invokevirtual 115, 3) := by decide +kernel
theorem dX7_ownerNow_84 : decode cX7_ownerNow 84 = .ok (.ireturn, 1) := by decide +kernel
theorem dX7_ownerNow_85 : decode cX7_ownerNow 85 = .ok (.aload_n 3, 1) := by decide +kernel
theorem dX7_ownerNow_86 : decode cX7_ownerNow 86 = .ok (.bipush 7, 2) := by decide +kernel
theorem dX7_ownerNow_88 : decode cX7_ownerNow 88 = .ok (.iaload, 1) := by decide +kernel
theorem dX7_ownerNow_89 : decode cX7_ownerNow 89 = .ok (.ireturn, 1) := by decide +kernel
theorem dX7_ownerNow_90 : decode cX7_ownerNow 90 = .ok (.aload_n 3, 1) := by decide +kernel
theorem dX7_ownerNow_91 : decode cX7_ownerNow 91 = .ok (.invokestatic 102, 3) := by decide +kernel
theorem dX7_ownerNow_94 : decode cX7_ownerNow 94 = .ok (.ireturn, 1) := by decide +kernel
theorem dX7_ownerNow_95 : decode cX7_ownerNow 95 = .ok (.aload_n 3, 1) := by decide +kernel
theorem dX7_ownerNow_96 : decode cX7_ownerNow 96 = .ok (.bipush 9, 2) := by decide +kernel
theorem dX7_ownerNow_98 : decode cX7_ownerNow 98 = .ok (.iaload, 1) := by decide +kernel
theorem dX7_ownerNow_99 : decode cX7_ownerNow 99 = .ok (.ireturn, 1) := by decide +kernel
theorem dX7_ownerNow_100 : decode cX7_ownerNow 100 = .ok (.aload_n 3, 1) := by decide +kernel
theorem dX7_ownerNow_101 : decode cX7_ownerNow 101 = .ok (.bipush 10, 2) := by decide +kernel
theorem dX7_ownerNow_103 : decode cX7_ownerNow 103 = .ok (.iaload, 1) := by decide +kernel
theorem dX7_ownerNow_104 : decode cX7_ownerNow 104 = .ok (.ireturn, 1) := by decide +kernel
theorem dX7_ownerNow_105 : decode cX7_ownerNow 105 = .ok (.aload_n 3, 1) := by decide +kernel
theorem dX7_ownerNow_106 : decode cX7_ownerNow 106 = .ok (.iload_n 2, 1) := by decide +kernel
theorem dX7_ownerNow_107 : decode cX7_ownerNow 107 = .ok (.iaload, 1) := by decide +kernel
theorem dX7_ownerNow_108 : decode cX7_ownerNow 108 = .ok (.ireturn, 1) := by decide +kernel
theorem dX7_of_0 : decode cX7_of 0 = .ok (.aload_n 0, 1) := by decide +kernel
theorem dX7_of_1 : decode cX7_of 1 = .ok (.iconst 0, 1) := by decide +kernel
theorem dX7_of_2 : decode cX7_of 2 = .ok (.putfield 16, 3) := by decide +kernel
theorem dX7_of_5 : decode cX7_of 5 = .ok (.aload_n 0, 1) := by decide +kernel
theorem dX7_of_6 : decode cX7_of 6 = .ok (.iload_n 1, 1) := by decide +kernel
theorem dX7_of_7 : decode cX7_of 7 = .ok (.invokevirtual 56, 3) := by decide +kernel
theorem dX7_of_10 : decode cX7_of 10 = .ok (.ifCond .ne 9, 3) := by decide +kernel
theorem dX7_of_13 : decode cX7_of 13 = .ok (.aload_n 0, 1) := by decide +kernel
theorem dX7_of_14 : decode cX7_of 14 = .ok (.iconst 1, 1) := by decide +kernel
theorem dX7_of_15 : decode cX7_of 15 = .ok (.invokevirtual 31, 3) := by decide +kernel
theorem dX7_of_18 : decode cX7_of 18 = .ok (.ireturn, 1) := by decide +kernel
theorem dX7_of_19 : decode cX7_of 19 = .ok (.iload_n 2, 1) := by decide +kernel
theorem dX7_of_20 : decode cX7_of 20 = .ok (.iconst 0, 1) := by decide +kernel
theorem dX7_of_21 : decode cX7_of 21 = .ok (.bipush 13, 2) := by decide +kernel
theorem dX7_of_23 : decode cX7_of 23 = .ok (.invokestatic 23, 3) := by decide +kernel
theorem dX7_of_26 : decode cX7_of 26 = .ok (.ifCond .ne 9, 3) := by decide +kernel
theorem dX7_of_29 : decode cX7_of 29 = .ok (.aload_n 0, 1) := by decide +kernel
theorem dX7_of_30 : decode cX7_of 30 = .ok (.iconst 2, 1) := by decide +kernel
theorem dX7_of_31 : decode cX7_of 31 = .ok (.invokevirtual 31, 3) := by decide +kernel
theorem dX7_of_34 : decode cX7_of 34 = .ok (.ireturn, 1) := by decide +kernel
theorem dX7_of_35 : decode cX7_of 35 = .ok (.aload_n 0, 1) := by decide +kernel
theorem dX7_of_36 : decode cX7_of 36 = .ok (.iload_n 1, 1) := by decide +kernel
theorem dX7_of_37 : decode cX7_of 37 = .ok (.iload_n 2, 1) := by decide +kernel
theorem dX7_of_38 : decode cX7_of 38 = .ok (.invokevirtual 118, 3) := by decide +kernel
theorem dX7_of_41 : decode cX7_of 41 = .ok (.ireturn, 1) := by decide +kernel
theorem dX7_ofBowl_0 : decode cX7_ofBowl 0 = .ok (.aload_n 0, 1) := by decide +kernel
theorem dX7_ofBowl_1 : decode cX7_ofBowl 1 = .ok (.iconst 0, 1) := by decide +kernel
theorem dX7_ofBowl_2 : decode cX7_ofBowl 2 = .ok (.putfield 16, 3) := by decide +kernel
theorem dX7_ofBowl_5 : decode cX7_ofBowl 5 = .ok (.iload_n 1, 1) := by decide +kernel
theorem dX7_ofBowl_6 : decode cX7_ofBowl 6 = .ok (.iconst 0, 1) := by decide +kernel
theorem dX7_ofBowl_7 : decode cX7_ofBowl 7 = .ok (.sipush 5039, 3) := by decide +kernel
theorem dX7_ofBowl_10 : decode cX7_ofBowl 10 = .ok (.invokestatic 23, 3) := by decide +kernel
theorem dX7_ofBowl_13 : decode cX7_ofBowl 13 = .ok (.ifCond .ne 9, 3) := by decide +kernel
theorem dX7_ofBowl_16 : decode cX7_ofBowl 16 = .ok (.aload_n 0, 1) := by decide +kernel
theorem dX7_ofBowl_17 : decode cX7_ofBowl 17 = .ok (.iconst 1, 1) := by decide +kernel
theorem dX7_ofBowl_18 : decode cX7_ofBowl 18 = .ok (.invokevirtual 31, 3) := by decide +kernel
theorem dX7_ofBowl_21 : decode cX7_ofBowl 21 = .ok (.ireturn, 1) := by decide +kernel
theorem dX7_ofBowl_22 : decode cX7_ofBowl 22 = .ok (.iload_n 2, 1) := by decide +kernel
theorem dX7_ofBowl_23 : decode cX7_ofBowl 23 = .ok (.iconst 0, 1) := by decide +kernel
theorem dX7_ofBowl_24 : decode cX7_ofBowl 24 = .ok (.iconst 1, 1) := by decide +kernel
theorem dX7_ofBowl_25 : decode cX7_ofBowl 25 = .ok (.invokestatic 23, 3) := by decide +kernel
theorem dX7_ofBowl_28 : decode cX7_ofBowl 28 = .ok (.ifCond .ne 9, 3) := by decide +kernel
theorem dX7_ofBowl_31 : decode cX7_ofBowl 31 = .ok (.aload_n 0, 1) := by decide +kernel
theorem dX7_ofBowl_32 : decode cX7_ofBowl 32 = .ok (.iconst 2, 1) := by decide +kernel
theorem dX7_ofBowl_33 : decode cX7_ofBowl 33 = .ok (.invokevirtual 31, 3) := by decide +kernel
theorem dX7_ofBowl_36 : decode cX7_ofBowl 36 = .ok (.ireturn, 1) := by decide +kernel
theorem dX7_ofBowl_37 : decode cX7_ofBowl 37 = .ok (.iload_n 2, 1) := by decide +kernel
theorem dX7_ofBowl_38 : decode cX7_ofBowl 38 = .ok (.ifCond .ne 14, 3) := by decide +kernel
theorem dX7_ofBowl_41 : decode cX7_ofBowl 41 = .ok (.aload_n 0, 1) := by decide +kernel
theorem dX7_ofBowl_42 : decode cX7_ofBowl 42 = .ok (.getfield 10, 3) := by decide +kernel
theorem dX7_ofBowl_45 : decode cX7_ofBowl 45 = .ok (.iload_n 1, 1) := by decide +kernel
theorem dX7_ofBowl_46 : decode cX7_ofBowl 46 = .ok (.invokevirtual 121, 3) := by decide +kernel
theorem dX7_ofBowl_49 : decode cX7_ofBowl 49 = .ok (.goto 11, 3) := by decide +kernel
theorem dX7_ofBowl_52 : decode cX7_ofBowl 52 = .ok (.aload_n 0, 1) := by decide +kernel
theorem dX7_ofBowl_53 : decode cX7_ofBowl 53 = .ok (.getfield 10, 3) := by decide +kernel
theorem dX7_ofBowl_56 : decode cX7_ofBowl 56 = .ok (.iload_n 1, 1) := by decide +kernel
theorem dX7_ofBowl_57 : decode cX7_ofBowl 57 = .ok (.invokevirtual 124, 3) := by decide +kernel
theorem dX7_ofBowl_60 : decode cX7_ofBowl 60 = .ok (.ireturn, 1) := by decide +kernel
theorem dX7_ofLoan_0 : decode cX7_ofLoan 0 = .ok (.aload_n 0, 1) := by decide +kernel
theorem dX7_ofLoan_1 : decode cX7_ofLoan 1 = .ok (.iconst 0, 1) := by decide +kernel
theorem dX7_ofLoan_2 : decode cX7_ofLoan 2 = .ok (.putfield 16, 3) := by decide +kernel
theorem dX7_ofLoan_5 : decode cX7_ofLoan 5 = .ok (.iload_n 1, 1) := by decide +kernel
theorem dX7_ofLoan_6 : decode cX7_ofLoan 6 = .ok (.iconst 0, 1) := by decide +kernel
theorem dX7_ofLoan_7 : decode cX7_ofLoan 7 = .ok (.aload_n 0, 1) := by decide +kernel
theorem dX7_ofLoan_8 : decode cX7_ofLoan 8 = .ok (.getfield 10, 3) := by decide +kernel
theorem dX7_ofLoan_11 : decode cX7_ofLoan 11 = .ok (.getfield 63, 3) := by decide +kernel
theorem dX7_ofLoan_14 : decode cX7_ofLoan 14 = .ok (.iconst 1, 1) := by decide +kernel
theorem dX7_ofLoan_15 : decode cX7_ofLoan 15 = .ok (.isub, 1) := by decide +kernel
theorem dX7_ofLoan_16 : decode cX7_ofLoan 16 = .ok (.invokestatic 23, 3) := by decide +kernel
theorem dX7_ofLoan_19 : decode cX7_ofLoan 19 = .ok (.ifCond .ne 9, 3) := by decide +kernel
theorem dX7_ofLoan_22 : decode cX7_ofLoan 22 = .ok (.aload_n 0, 1) := by decide +kernel
theorem dX7_ofLoan_23 : decode cX7_ofLoan 23 = .ok (.iconst 1, 1) := by decide +kernel
theorem dX7_ofLoan_24 : decode cX7_ofLoan 24 = .ok (.invokevirtual 31, 3) := by decide +kernel
theorem dX7_ofLoan_27 : decode cX7_ofLoan 27 = .ok (.ireturn, 1) := by decide +kernel
theorem dX7_ofLoan_28 : decode cX7_ofLoan 28 = .ok (.iload_n 2, 1) := by decide +kernel
theorem dX7_ofLoan_29 : decode cX7_ofLoan 29 = .ok (.iconst 0, 1) := by decide +kernel
theorem dX7_ofLoan_30 : decode cX7_ofLoan 30 = .ok (.iconst 3, 1) := by decide +kernel
theorem dX7_ofLoan_31 : decode cX7_ofLoan 31 = .ok (.invokestatic 23, 3) := by decide +kernel
theorem dX7_ofLoan_34 : decode cX7_ofLoan 34 = .ok (.ifCond .ne 9, 3) := by decide +kernel
theorem dX7_ofLoan_37 : decode cX7_ofLoan 37 = .ok (.aload_n 0, 1) := by decide +kernel
theorem dX7_ofLoan_38 : decode cX7_ofLoan 38 = .ok (.iconst 2, 1) := by decide +kernel
theorem dX7_ofLoan_39 : decode cX7_ofLoan 39 = .ok (.invokevirtual 31, 3) := by decide +kernel
theorem dX7_ofLoan_42 : decode cX7_ofLoan 42 = .ok (.ireturn, 1) := by decide +kernel
theorem dX7_ofLoan_43 : decode cX7_ofLoan 43 = .ok (.aload_n 0, 1) := by decide +kernel
theorem dX7_ofLoan_44 : decode cX7_ofLoan 44 = .ok (.getfield 10, 3) := by decide +kernel
theorem dX7_ofLoan_47 : decode cX7_ofLoan 47 = .ok (.getfield 66, 3) := by decide +kernel
theorem dX7_ofLoan_50 : decode cX7_ofLoan 50 = .ok (.iload_n 1, 1) := by decide +kernel
theorem dX7_ofLoan_51 : decode cX7_ofLoan 51 = .ok (.aaload, 1) := by decide +kernel
theorem dX7_ofLoan_52 : decode cX7_ofLoan 52 = .ok (.iload_n 2, 1) := by decide +kernel
theorem dX7_ofLoan_53 : decode cX7_ofLoan 53 = .ok (.iaload, 1) := by decide +kernel
theorem dX7_ofLoan_54 : decode cX7_ofLoan 54 = .ok (.ireturn, 1) := by decide +kernel
theorem dX7_ofSale_0 : decode cX7_ofSale 0 = .ok (.aload_n 0, 1) := by decide +kernel
theorem dX7_ofSale_1 : decode cX7_ofSale 1 = .ok (.iconst 0, 1) := by decide +kernel
theorem dX7_ofSale_2 : decode cX7_ofSale 2 = .ok (.putfield 16, 3) := by decide +kernel
theorem dX7_ofSale_5 : decode cX7_ofSale 5 = .ok (.iload_n 1, 1) := by decide +kernel
theorem dX7_ofSale_6 : decode cX7_ofSale 6 = .ok (.iconst 0, 1) := by decide +kernel
theorem dX7_ofSale_7 : decode cX7_ofSale 7 = .ok (.aload_n 0, 1) := by decide +kernel
theorem dX7_ofSale_8 : decode cX7_ofSale 8 = .ok (.getfield 10, 3) := by decide +kernel
theorem dX7_ofSale_11 : decode cX7_ofSale 11 = .ok (.getfield 76, 3) := by decide +kernel
theorem dX7_ofSale_14 : decode cX7_ofSale 14 = .ok (.iconst 1, 1) := by decide +kernel
theorem dX7_ofSale_15 : decode cX7_ofSale 15 = .ok (.isub, 1) := by decide +kernel
theorem dX7_ofSale_16 : decode cX7_ofSale 16 = .ok (.invokestatic 23, 3) := by decide +kernel
theorem dX7_ofSale_19 : decode cX7_ofSale 19 = .ok (.ifCond .ne 9, 3) := by decide +kernel
theorem dX7_ofSale_22 : decode cX7_ofSale 22 = .ok (.aload_n 0, 1) := by decide +kernel
theorem dX7_ofSale_23 : decode cX7_ofSale 23 = .ok (.iconst 1, 1) := by decide +kernel
theorem dX7_ofSale_24 : decode cX7_ofSale 24 = .ok (.invokevirtual 31, 3) := by decide +kernel
theorem dX7_ofSale_27 : decode cX7_ofSale 27 = .ok (.ireturn, 1) := by decide +kernel
theorem dX7_ofSale_28 : decode cX7_ofSale 28 = .ok (.iload_n 2, 1) := by decide +kernel
theorem dX7_ofSale_29 : decode cX7_ofSale 29 = .ok (.iconst 0, 1) := by decide +kernel
theorem dX7_ofSale_30 : decode cX7_ofSale 30 = .ok (.iconst 2, 1) := by decide +kernel
theorem dX7_ofSale_31 : decode cX7_ofSale 31 = .ok (.invokestatic 23, 3) := by decide +kernel
theorem dX7_ofSale_34 : decode cX7_ofSale 34 = .ok (.ifCond .ne 9, 3) := by decide +kernel
theorem dX7_ofSale_37 : decode cX7_ofSale 37 = .ok (.aload_n 0, 1) := by decide +kernel
theorem dX7_ofSale_38 : decode cX7_ofSale 38 = .ok (.iconst 2, 1) := by decide +kernel
theorem dX7_ofSale_39 : decode cX7_ofSale 39 = .ok (.invokevirtual 31, 3) := by decide +kernel
theorem dX7_ofSale_42 : decode cX7_ofSale 42 = .ok (.ireturn, 1) := by decide +kernel
theorem dX7_ofSale_43 : decode cX7_ofSale 43 = .ok (.aload_n 0, 1) := by decide +kernel
theorem dX7_ofSale_44 : decode cX7_ofSale 44 = .ok (.getfield 10, 3) := by decide +kernel
theorem dX7_ofSale_47 : decode cX7_ofSale 47 = .ok (.getfield 79, 3) := by decide +kernel
theorem dX7_ofSale_50 : decode cX7_ofSale 50 = .ok (.iload_n 1, 1) := by decide +kernel
theorem dX7_ofSale_51 : decode cX7_ofSale 51 = .ok (.aaload, 1) := by decide +kernel
theorem dX7_ofSale_52 : decode cX7_ofSale 52 = .ok (.iload_n 2, 1) := by decide +kernel
theorem dX7_ofSale_53 : decode cX7_ofSale 53 = .ok (.iaload, 1) := by decide +kernel
theorem dX7_ofSale_54 : decode cX7_ofSale 54 = .ok (.ireturn, 1) := by decide +kernel
theorem dX7_manyNow_0 : decode cX7_manyNow 0 = .ok (.iconst 0, 1) := by decide +kernel
theorem dX7_manyNow_1 : decode cX7_manyNow 1 = .ok (.istore_n 2, 1) := by decide +kernel
theorem dX7_manyNow_2 : decode cX7_manyNow 2 = .ok (.iconst 0, 1) := by decide +kernel
theorem dX7_manyNow_3 : decode cX7_manyNow 3 = .ok (.istore_n 3, 1) := by decide +kernel
theorem dX7_manyNow_4 : decode cX7_manyNow 4 = .ok (.iload_n 3, 1) := by decide +kernel
theorem dX7_manyNow_5 : decode cX7_manyNow 5 = .ok (.aload_n 0, 1) := by decide +kernel
theorem dX7_manyNow_6 : decode cX7_manyNow 6 = .ok (.getfield 10, 3) := by decide +kernel
theorem dX7_manyNow_9 : decode cX7_manyNow 9 = .ok (.getfield 53, 3) := by decide +kernel
theorem dX7_manyNow_12 : decode cX7_manyNow 12 = .ok (.if_icmp .ge 27, 3) := by decide +kernel
theorem dX7_manyNow_15 : decode cX7_manyNow 15 = .ok (.iload_n 2, 1) := by decide +kernel
theorem dX7_manyNow_16 : decode cX7_manyNow 16 = .ok (.aload_n 0, 1) := by decide +kernel
theorem dX7_manyNow_17 : decode cX7_manyNow 17 = .ok (.aload_n 0, 1) := by decide +kernel
theorem dX7_manyNow_18 : decode cX7_manyNow 18 = .ok (.getfield 10, 3) := by decide +kernel
theorem dX7_manyNow_21 : decode cX7_manyNow 21 = .ok (.getfield 49, 3) := by decide +kernel
theorem dX7_manyNow_24 : decode cX7_manyNow 24 = .ok (.iload_n 3, 1) := by decide +kernel
theorem dX7_manyNow_25 : decode cX7_manyNow 25 = .ok (.iaload, 1) := by decide +kernel
theorem dX7_manyNow_26 : decode cX7_manyNow 26 = .ok (.invokevirtual 39, 3) := by decide +kernel
theorem dX7_manyNow_29 : decode cX7_manyNow 29 = .ok (.iconst 1, 1) := by decide +kernel
theorem dX7_manyNow_30 : decode cX7_manyNow 30 = .ok (.iaload, 1) := by decide +kernel
theorem dX7_manyNow_31 : decode cX7_manyNow 31 = .ok (.iadd, 1) := by decide +kernel
theorem dX7_manyNow_32 : decode cX7_manyNow 32 = .ok (.istore_n 2, 1) := by decide +kernel
theorem dX7_manyNow_33 : decode cX7_manyNow 33 = .ok (.iinc 3 1, 3) := by decide +kernel
theorem dX7_manyNow_36 : decode cX7_manyNow 36 = .ok (.goto (-32), 3) := by decide +kernel
theorem dX7_manyNow_39 : decode cX7_manyNow 39 = .ok (.bipush 16, 2) := by decide +kernel
theorem dX7_manyNow_41 : decode cX7_manyNow 41 = .ok (.newarray .int, 2) := by decide +kernel
theorem dX7_manyNow_43 : decode cX7_manyNow 43 = .ok (.dup, 1) := by decide +kernel
theorem dX7_manyNow_44 : decode cX7_manyNow 44 = .ok (.iconst 0, 1) := by decide +kernel
theorem dX7_manyNow_45 : decode cX7_manyNow 45 = .ok (.aload_n 0, 1) := by decide +kernel
theorem dX7_manyNow_46 : decode cX7_manyNow 46 = .ok (.getfield 10, 3) := by decide +kernel
theorem dX7_manyNow_49 : decode cX7_manyNow 49 = .ok (.getfield 99, 3) := by decide +kernel
theorem dX7_manyNow_52 : decode cX7_manyNow 52 = .ok (.iastore, 1) := by decide +kernel
theorem dX7_manyNow_53 : decode cX7_manyNow 53 = .ok (.dup, 1) := by decide +kernel
theorem dX7_manyNow_54 : decode cX7_manyNow 54 = .ok (.iconst 1, 1) := by decide +kernel
theorem dX7_manyNow_55 : decode cX7_manyNow 55 = .ok (.aload_n 0, 1) := by decide +kernel
theorem dX7_manyNow_56 : decode cX7_manyNow 56 = .ok (.getfield 10, 3) := by decide +kernel
theorem dX7_manyNow_59 : decode cX7_manyNow 59 = .ok (.getfield 99, 3) := by decide +kernel
theorem dX7_manyNow_62 : decode cX7_manyNow 62 = .ok (.bipush 70, 2) := by decide +kernel
theorem dX7_manyNow_64 : decode cX7_manyNow 64 = .ok (.irem, 1) := by decide +kernel
theorem dX7_manyNow_65 : decode cX7_manyNow 65 = .ok (.iastore, 1) := by decide +kernel
theorem dX7_manyNow_66 : decode cX7_manyNow 66 = .ok (.dup, 1) := by decide +kernel
theorem dX7_manyNow_67 : decode cX7_manyNow 67 = .ok (.iconst 2, 1) := by decide +kernel
theorem dX7_manyNow_68 : decode cX7_manyNow 68 = .ok (.aload_n 0, 1) := by decide +kernel
theorem dX7_manyNow_69 : decode cX7_manyNow 69 = .ok (.getfield 10, 3) := by decide +kernel
theorem dX7_manyNow_72 : decode cX7_manyNow 72 = .ok (.getfield 127, 3) := by decide +kernel
theorem dX7_manyNow_75 : decode cX7_manyNow 75 = .ok (.iastore, 1) := by decide +kernel
theorem dX7_manyNow_76 : decode cX7_manyNow 76 = .ok (.dup, 1) := by decide +kernel
theorem dX7_manyNow_77 : decode cX7_manyNow 77 = .ok (.iconst 3, 1) := by decide +kernel
theorem dX7_manyNow_78 : decode cX7_manyNow 78 = .ok (.aload_n 0, 1) := by decide +kernel
theorem dX7_manyNow_79 : decode cX7_manyNow 79 = .ok (.getfield 10, 3) := by decide +kernel
theorem dX7_manyNow_82 : decode cX7_manyNow 82 = .ok (.invokevirtual 130, 3) := by decide +kernel
theorem dX7_manyNow_85 : decode cX7_manyNow 85 = .ok (.iastore, 1) := by decide +kernel
theorem dX7_manyNow_86 : decode cX7_manyNow 86 = .ok (.dup, 1) := by decide +kernel
theorem dX7_manyNow_87 : decode cX7_manyNow 87 = .ok (.iconst 4, 1) := by decide +kernel
theorem dX7_manyNow_88 : decode cX7_manyNow 88 = .ok (.aload_n 0, 1) := by decide +kernel
theorem dX7_manyNow_89 : decode cX7_manyNow 89 = .ok (.getfield 10, 3) := by decide +kernel
theorem dX7_manyNow_92 : decode cX7_manyNow 92 = .ok (.getfield 82, 3) := by decide +kernel
theorem dX7_manyNow_95 : decode cX7_manyNow 95 = .ok (.iastore, 1) := by decide +kernel
theorem dX7_manyNow_96 : decode cX7_manyNow 96 = .ok (.dup, 1) := by decide +kernel
theorem dX7_manyNow_97 : decode cX7_manyNow 97 = .ok (.iconst 5, 1) := by decide +kernel
theorem dX7_manyNow_98 : decode cX7_manyNow 98 = .ok (.aload_n 0, 1) := by decide +kernel
theorem dX7_manyNow_99 : decode cX7_manyNow 99 = .ok (.getfield 10, 3) := by decide +kernel
theorem dX7_manyNow_102 : decode cX7_manyNow 102 = .ok (.getfield 88, 3) := by decide +kernel
theorem dX7_manyNow_105 : decode cX7_manyNow 105 = .ok (.iastore, 1) := by decide +kernel
theorem dX7_manyNow_106 : decode cX7_manyNow 106 = .ok (.dup, 1) := by decide +kernel
theorem dX7_manyNow_107 : decode cX7_manyNow 107 = .ok (.bipush 6, 2) := by decide +kernel
theorem dX7_manyNow_109 : decode cX7_manyNow 109 = .ok (.aload_n 0, 1) := by decide +kernel
theorem dX7_manyNow_110 : decode cX7_manyNow 110 = .ok (.getfield 10, 3) := by decide +kernel
theorem dX7_manyNow_113 : decode cX7_manyNow 113 = .ok (.getfield 96, 3) := by decide +kernel
theorem dX7_manyNow_116 : decode cX7_manyNow 116 = .ok (.iastore, 1) := by decide +kernel
theorem dX7_manyNow_117 : decode cX7_manyNow 117 = .ok (.dup, 1) := by decide +kernel
theorem dX7_manyNow_118 : decode cX7_manyNow 118 = .ok (.bipush 7, 2) := by decide +kernel
theorem dX7_manyNow_120 : decode cX7_manyNow 120 = .ok (.aload_n 0, 1) := by decide +kernel
theorem dX7_manyNow_121 : decode cX7_manyNow 121 = .ok (.getfield 10, 3) := by decide +kernel
theorem dX7_manyNow_124 : decode cX7_manyNow 124 = .ok (.getfield 53, 3) := by decide +kernel
theorem dX7_manyNow_127 : decode cX7_manyNow 127 = .ok (.iastore, 1) := by decide +kernel
theorem dX7_manyNow_128 : decode cX7_manyNow 128 = .ok (.dup, 1) := by decide +kernel
theorem dX7_manyNow_129 : decode cX7_manyNow 129 = .ok (.bipush 8, 2) := by decide +kernel
theorem dX7_manyNow_131 : decode cX7_manyNow 131 = .ok (.aload_n 0, 1) := by decide +kernel
theorem dX7_manyNow_132 : decode cX7_manyNow 132 = .ok (.getfield 10, 3) := by decide +kernel
theorem dX7_manyNow_135 : decode cX7_manyNow 135 = .ok (.getfield 20, 3) := by decide +kernel
theorem dX7_manyNow_138 : decode cX7_manyNow 138 = .ok (.iastore, 1) := by decide +kernel
theorem dX7_manyNow_139 : decode cX7_manyNow 139 = .ok (.dup, 1) := by decide +kernel
theorem dX7_manyNow_140 : decode cX7_manyNow 140 = .ok (.bipush 9, 2) := by decide +kernel
theorem dX7_manyNow_142 : decode cX7_manyNow 142 = .ok (.sipush 5040, 3) := by decide +kernel
theorem dX7_manyNow_145 : decode cX7_manyNow 145 = .ok (.aload_n 0, 1) := by decide +kernel
theorem dX7_manyNow_146 : decode cX7_manyNow 146 = .ok (.getfield 10, 3) := by decide +kernel
theorem dX7_manyNow_149 : decode cX7_manyNow 149 = .ok (.invokevirtual 35, 3) := by decide +kernel
theorem dX7_manyNow_152 : decode cX7_manyNow 152 = .ok (.isub, 1) := by decide +kernel
theorem dX7_manyNow_153 : decode cX7_manyNow 153 = .ok (.iastore, 1) := by decide +kernel
theorem dX7_manyNow_154 : decode cX7_manyNow 154 = .ok (.dup, 1) := by decide +kernel
theorem dX7_manyNow_155 : decode cX7_manyNow 155 = .ok (.bipush 10, 2) := by decide +kernel
theorem dX7_manyNow_157 : decode cX7_manyNow 157 = .ok (.aload_n 0, 1) := by decide +kernel
theorem dX7_manyNow_158 : decode cX7_manyNow 158 = .ok (.getfield 10, 3) := by decide +kernel
theorem dX7_manyNow_161 : decode cX7_manyNow 161 = .ok (.getfield 63, 3) := by decide +kernel
theorem dX7_manyNow_164 : decode cX7_manyNow 164 = .ok (.iastore, 1) := by decide +kernel
theorem dX7_manyNow_165 : decode cX7_manyNow 165 = .ok (.dup, 1) := by decide +kernel
theorem dX7_manyNow_166 : decode cX7_manyNow 166 = .ok (.bipush 11, 2) := by decide +kernel
theorem dX7_manyNow_168 : decode cX7_manyNow 168 = .ok (.aload_n 0, 1) := by decide +kernel
theorem dX7_manyNow_169 : decode cX7_manyNow 169 = .ok (.getfield 10, 3) := by decide +kernel
theorem dX7_manyNow_172 : decode cX7_manyNow 172 = .ok (.getfield 76, 3) := by decide +kernel
theorem dX7_manyNow_175 : decode cX7_manyNow 175 = .ok (.iastore, 1) := by decide +kernel
theorem dX7_manyNow_176 : decode cX7_manyNow 176 = .ok (.dup, 1) := by decide +kernel
theorem dX7_manyNow_177 : decode cX7_manyNow 177 = .ok (.bipush 12, 2) := by decide +kernel
theorem dX7_manyNow_179 : decode cX7_manyNow 179 = .ok (.aload_n 0, 1) := by decide +kernel
theorem dX7_manyNow_180 : decode cX7_manyNow 180 = .ok (.getfield 10, 3) := by decide +kernel
theorem dX7_manyNow_183 : decode cX7_manyNow 183 = .ok (.getfield 133, 3) := by decide +kernel
theorem dX7_manyNow_186 : decode cX7_manyNow 186 = .ok (.iastore, 1) := by decide +kernel
theorem dX7_manyNow_187 : decode cX7_manyNow 187 = .ok (.dup, 1) := by decide +kernel
theorem dX7_manyNow_188 : decode cX7_manyNow 188 = .ok (.bipush 13, 2) := by decide +kernel
theorem dX7_manyNow_190 : decode cX7_manyNow 190 = .ok (.aload_n 0, 1) := by decide +kernel
theorem dX7_manyNow_191 : decode cX7_manyNow 191 = .ok (.getfield 10, 3) := by decide +kernel
theorem dX7_manyNow_194 : decode cX7_manyNow 194 = .ok (.getfield 136, 3) := by decide +kernel
theorem dX7_manyNow_197 : decode cX7_manyNow 197 = .ok (.iastore, 1) := by decide +kernel
theorem dX7_manyNow_198 : decode cX7_manyNow 198 = .ok (.dup, 1) := by decide +kernel
theorem dX7_manyNow_199 : decode cX7_manyNow 199 = .ok (.bipush 14, 2) := by decide +kernel
theorem dX7_manyNow_201 : decode cX7_manyNow 201 = .ok (.aload_n 0, 1) := by decide +kernel
theorem dX7_manyNow_202 : decode cX7_manyNow 202 = .ok (.getfield 10, 3) := by decide +kernel
theorem dX7_manyNow_205 : decode cX7_manyNow 205 = .ok (.getfield 139, 3) := by decide +kernel
theorem dX7_manyNow_208 : decode cX7_manyNow 208 = .ok (.iastore, 1) := by decide +kernel
theorem dX7_manyNow_209 : decode cX7_manyNow 209 = .ok (.dup, 1) := by decide +kernel
theorem dX7_manyNow_210 : decode cX7_manyNow 210 = .ok (.bipush 15, 2) := by decide +kernel
theorem dX7_manyNow_212 : decode cX7_manyNow 212 = .ok (.iload_n 2, 1) := by decide +kernel
theorem dX7_manyNow_213 : decode cX7_manyNow 213 = .ok (.iastore, 1) := by decide +kernel
theorem dX7_manyNow_214 : decode cX7_manyNow 214 = .ok (.astore_n 3, 1) := by decide +kernel
theorem dX7_manyNow_215 : decode cX7_manyNow 215 = .ok (.aload_n 3, 1) := by decide +kernel
theorem dX7_manyNow_216 : decode cX7_manyNow 216 = .ok (.iload_n 1, 1) := by decide +kernel
theorem dX7_manyNow_217 : decode cX7_manyNow 217 = .ok (.iaload, 1) := by decide +kernel
theorem dX7_manyNow_218 : decode cX7_manyNow 218 = .ok (.ireturn, 1) := by decide +kernel
theorem dX7_many_0 : decode cX7_many 0 = .ok (.aload_n 0, 1) := by decide +kernel
theorem dX7_many_1 : decode cX7_many 1 = .ok (.iconst 0, 1) := by decide +kernel
theorem dX7_many_2 : decode cX7_many 2 = .ok (.putfield 16, 3) := by decide +kernel
theorem dX7_many_5 : decode cX7_many 5 = .ok (.iload_n 1, 1) := by decide +kernel
theorem dX7_many_6 : decode cX7_many 6 = .ok (.iconst 0, 1) := by decide +kernel
theorem dX7_many_7 : decode cX7_many 7 = .ok (.bipush 15, 2) := by decide +kernel
theorem dX7_many_9 : decode cX7_many 9 = .ok (.invokestatic 23, 3) := by decide +kernel
theorem dX7_many_12 : decode cX7_many 12 = .ok (.ifCond .ne 9, 3) := by decide +kernel
theorem dX7_many_15 : decode cX7_many 15 = .ok (.aload_n 0, 1) := by decide +kernel
theorem dX7_many_16 : decode cX7_many 16 = .ok (.iconst 1, 1) := by decide +kernel
theorem dX7_many_17 : decode cX7_many 17 = .ok (.invokevirtual 31, 3) := by decide +kernel
theorem dX7_many_20 : decode cX7_many 20 = .ok (.ireturn, 1) := by decide +kernel
theorem dX7_many_21 : decode cX7_many 21 = .ok (.aload_n 0, 1) := by decide +kernel
theorem dX7_many_22 : decode cX7_many 22 = .ok (.iload_n 1, 1) := by decide +kernel
theorem dX7_many_23 : decode cX7_many 23 = .ok (.invokevirtual 142, 3) := by decide +kernel
theorem dX7_many_26 : decode cX7_many 26 = .ok (.ireturn, 1) := by decide +kernel
theorem dX7_meanMoist_0 : decode cX7_meanMoist 0 = .ok (.aload_n 0, 1) := by decide +kernel
theorem dX7_meanMoist_1 : decode cX7_meanMoist 1 = .ok (.iconst 0, 1) := by decide +kernel
theorem dX7_meanMoist_2 : decode cX7_meanMoist 2 = .ok (.putfield 16, 3) := by decide +kernel
theorem dX7_meanMoist_5 : decode cX7_meanMoist 5 = .ok (.iconst 0, 1) := by decide +kernel
theorem dX7_meanMoist_6 : decode cX7_meanMoist 6 = .ok (.istore_n 1, 1) := by decide +kernel
theorem dX7_meanMoist_7 : decode cX7_meanMoist 7 = .ok (.iconst 0, 1) := by decide +kernel
theorem dX7_meanMoist_8 : decode cX7_meanMoist 8 = .ok (.istore_n 2, 1) := by decide +kernel
theorem dX7_meanMoist_9 : decode cX7_meanMoist 9 = .ok (.iload_n 2, 1) := by decide +kernel
theorem dX7_meanMoist_10 : decode cX7_meanMoist 10 = .ok (.aload_n 0, 1) := by decide +kernel
theorem dX7_meanMoist_11 : decode cX7_meanMoist 11 = .ok (.getfield 10, 3) := by decide +kernel
theorem dX7_meanMoist_14 : decode cX7_meanMoist 14 = .ok (.getfield 53, 3) := by decide +kernel
theorem dX7_meanMoist_17 : decode cX7_meanMoist 17 = .ok (.if_icmp .ge 27, 3) := by decide +kernel
theorem dX7_meanMoist_20 : decode cX7_meanMoist 20 = .ok (.iload_n 1, 1) := by decide +kernel
theorem dX7_meanMoist_21 : decode cX7_meanMoist 21 = .ok (.aload_n 0, 1) := by decide +kernel
theorem dX7_meanMoist_22 : decode cX7_meanMoist 22 = .ok (.aload_n 0, 1) := by decide +kernel
theorem dX7_meanMoist_23 : decode cX7_meanMoist 23 = .ok (.getfield 10, 3) := by decide +kernel
theorem dX7_meanMoist_26 : decode cX7_meanMoist 26 = .ok (.getfield 49, 3) := by decide +kernel
theorem dX7_meanMoist_29 : decode cX7_meanMoist 29 = .ok (.iload_n 2, 1) := by decide +kernel
theorem dX7_meanMoist_30 : decode cX7_meanMoist 30 = .ok (.iaload, 1) := by decide +kernel
theorem dX7_meanMoist_31 : decode cX7_meanMoist 31 = .ok (.invokevirtual 39, 3) := by decide +kernel
theorem dX7_meanMoist_34 : decode cX7_meanMoist 34 = .ok (.iconst 4, 1) := by decide +kernel
theorem dX7_meanMoist_35 : decode cX7_meanMoist 35 = .ok (.iaload, 1) := by decide +kernel
theorem dX7_meanMoist_36 : decode cX7_meanMoist 36 = .ok (.iadd, 1) := by decide +kernel
theorem dX7_meanMoist_37 : decode cX7_meanMoist 37 = .ok (.istore_n 1, 1) := by decide +kernel
theorem dX7_meanMoist_38 : decode cX7_meanMoist 38 = .ok (.iinc 2 1, 3) := by decide +kernel
theorem dX7_meanMoist_41 : decode cX7_meanMoist 41 = .ok (.goto (-32), 3) := by decide +kernel
theorem dX7_meanMoist_44 : decode cX7_meanMoist 44 = .ok (.aload_n 0, 1) := by decide +kernel
theorem dX7_meanMoist_45 : decode cX7_meanMoist 45 = .ok (.getfield 10, 3) := by decide +kernel
theorem dX7_meanMoist_48 : decode cX7_meanMoist 48 = .ok (.getfield 53, 3) := by decide +kernel
theorem dX7_meanMoist_51 : decode cX7_meanMoist 51 = .ok (.ifCond .ne 7, 3) := by decide +kernel
theorem dX7_meanMoist_54 : decode cX7_meanMoist 54 = .ok (.dconst 0, 1) := by decide +kernel
theorem dX7_meanMoist_55 : decode cX7_meanMoist 55 = .ok (.goto 14, 3) := by decide +kernel
theorem dX7_meanMoist_58 : decode cX7_meanMoist 58 = .ok (.iload_n 1, 1) := by decide +kernel
theorem dX7_meanMoist_59 : decode cX7_meanMoist 59 = .ok (.i2d, 1) := by decide +kernel
theorem dX7_meanMoist_60 : decode cX7_meanMoist 60 = .ok (.aload_n 0, 1) := by decide +kernel
theorem dX7_meanMoist_61 : decode cX7_meanMoist 61 = .ok (.getfield 10, 3) := by decide +kernel
theorem dX7_meanMoist_64 : decode cX7_meanMoist 64 = .ok (.getfield 53, 3) := by decide +kernel
theorem dX7_meanMoist_67 : decode cX7_meanMoist 67 = .ok (.i2d, 1) := by decide +kernel
theorem dX7_meanMoist_68 : decode cX7_meanMoist 68 = .ok (.ddiv, 1) := by decide +kernel
theorem dX7_meanMoist_69 : decode cX7_meanMoist 69 = .ok (.dreturn, 1) := by decide +kernel
theorem dX7_comeNow_0 : decode cX7_comeNow 0 = .ok (.aload_n 0, 1) := by decide +kernel
theorem dX7_comeNow_1 : decode cX7_comeNow 1 = .ok (.getfield 10, 3) := by decide +kernel
theorem dX7_comeNow_4 : decode cX7_comeNow 4 = .ok (.invokevirtual 145, 3) := by decide +kernel
theorem dX7_comeNow_7 : decode cX7_comeNow 7 = .ok (.astore 4, 2) := by decide +kernel
theorem dX7_comeNow_9 : decode cX7_comeNow 9 = .ok (.aload 4, 2) := by decide +kernel
theorem dX7_comeNow_11 : decode cX7_comeNow 11 = .ok (.iload_n 2, 1) := by decide +kernel
theorem dX7_comeNow_12 : decode cX7_comeNow 12 = .ok (.iload_n 3, 1) := by decide +kernel
theorem dX7_comeNow_13 : decode cX7_comeNow 13 = .ok (.invokevirtual 109, 3) := by decide +kernel
theorem dX7_comeNow_16 : decode cX7_comeNow 16 = .ok (.pop, 1) := by decide +kernel
theorem dX7_comeNow_17 : decode cX7_comeNow 17 = .ok (.aload 4, 2) := by decide +kernel
theorem dX7_comeNow_19 : decode cX7_comeNow 19 = .ok (.getfield 27, 3) := by decide +kernel
theorem dX7_comeNow_22 : decode cX7_comeNow 22 = .ok (.iload_n 1, 1) := by decide +kernel
theorem dX7_comeNow_23 : decode cX7_comeNow 23 = .ok (.aaload, 1) := by decide +kernel
theorem dX7_comeNow_24 : decode cX7_comeNow 24 = .ok (.bipush 10, 2) := by decide +kernel
theorem dX7_comeNow_26 : decode cX7_comeNow 26 = .ok (.iaload, 1) := by decide +kernel
theorem dX7_comeNow_27 : decode cX7_comeNow 27 = .ok (.aload_n 0, 1) := by decide +kernel
theorem dX7_comeNow_28 : decode cX7_comeNow 28 = .ok (.iload_n 1, 1) := by decide +kernel
theorem dX7_comeNow_29 : decode cX7_comeNow 29 = .ok (.invokevirtual 39, 3) := by decide +kernel
theorem dX7_comeNow_32 : decode cX7_comeNow 32 = .ok (.bipush 10, 2) := by decide +kernel
theorem dX7_comeNow_34 : decode cX7_comeNow 34 = .ok (.iaload, 1) := by decide +kernel
theorem dX7_comeNow_35 : decode cX7_comeNow 35 = .ok (.isub, 1) := by decide +kernel
theorem dX7_comeNow_36 : decode cX7_comeNow 36 = .ok (.ireturn, 1) := by decide +kernel
theorem dX7_wouldCome_0 : decode cX7_wouldCome 0 = .ok (.aload_n 0, 1) := by decide +kernel
theorem dX7_wouldCome_1 : decode cX7_wouldCome 1 = .ok (.iconst 0, 1) := by decide +kernel
theorem dX7_wouldCome_2 : decode cX7_wouldCome 2 = .ok (.putfield 16, 3) := by decide +kernel
theorem dX7_wouldCome_5 : decode cX7_wouldCome 5 = .ok (.aload_n 0, 1) := by decide +kernel
theorem dX7_wouldCome_6 : decode cX7_wouldCome 6 = .ok (.iload_n 1, 1) := by decide +kernel
theorem dX7_wouldCome_7 : decode cX7_wouldCome 7 = .ok (.invokevirtual 56, 3) := by decide +kernel
theorem dX7_wouldCome_10 : decode cX7_wouldCome 10 = .ok (.ifCond .ne 9, 3) := by decide +kernel
theorem dX7_wouldCome_13 : decode cX7_wouldCome 13 = .ok (.aload_n 0, 1) := by decide +kernel
theorem dX7_wouldCome_14 : decode cX7_wouldCome 14 = .ok (.iconst 1, 1) := by decide +kernel
theorem dX7_wouldCome_15 : decode cX7_wouldCome 15 = .ok (.invokevirtual 31, 3) := by decide +kernel
theorem dX7_wouldCome_18 : decode cX7_wouldCome 18 = .ok (.ireturn, 1) := by decide +kernel
theorem dX7_wouldCome_19 : decode cX7_wouldCome 19 = .ok (.iload_n 2, 1) := by decide +kernel
theorem dX7_wouldCome_20 : decode cX7_wouldCome 20 = .ok (.iload_n 3, 1) := by decide +kernel
theorem dX7_wouldCome_21 : decode cX7_wouldCome 21 = .ok (.bipush 70, 2) := by decide +kernel
theorem dX7_wouldCome_23 : decode cX7_wouldCome 23 = .ok (.invokestatic 106, 3) := by decide +kernel
theorem dX7_wouldCome_26 : decode cX7_wouldCome 26 = .ok (.ifCond .ne 9, 3) := by decide +kernel
theorem dX7_wouldCome_29 : decode cX7_wouldCome 29 = .ok (.aload_n 0, 1) := by decide +kernel
theorem dX7_wouldCome_30 : decode cX7_wouldCome 30 = .ok (.iconst 2, 1) := by decide +kernel
theorem dX7_wouldCome_31 : decode cX7_wouldCome 31 = .ok (.invokevirtual 31, 3) := by decide +kernel
theorem dX7_wouldCome_34 : decode cX7_wouldCome 34 = .ok (.ireturn, 1) := by decide +kernel
theorem dX7_wouldCome_35 : decode cX7_wouldCome 35 = .ok (.aload_n 0, 1) := by decide +kernel
theorem dX7_wouldCome_36 : decode cX7_wouldCome 36 = .ok (.iload_n 1, 1) := by decide +kernel
theorem dX7_wouldCome_37 : decode cX7_wouldCome 37 = .ok (.iload_n 2, 1) := by decide +kernel
theorem dX7_wouldCome_38 : decode cX7_wouldCome 38 = .ok (.iload_n 3, 1) := by decide +kernel
theorem dX7_wouldCome_39 : decode cX7_wouldCome 39 = .ok (.invokevirtual 149, 3) := by decide +kernel
theorem dX7_wouldCome_42 : decode cX7_wouldCome 42 = .ok (.ireturn, 1) := by decide +kernel
theorem dX7_digNow_0 : decode cX7_digNow 0 = .ok (.iconst 0, 1) := by decide +kernel
theorem dX7_digNow_1 : decode cX7_digNow 1 = .ok (.istore_n 3, 1) := by decide +kernel
theorem dX7_digNow_2 : decode cX7_digNow 2 = .ok (.iconst (-1), 1) := by decide +kernel
theorem dX7_digNow_3 : decode cX7_digNow 3 = .ok (.istore 4, 2) := by decide +kernel
theorem dX7_digNow_5 : decode cX7_digNow 5 = .ok (.iconst 0, 1) := by decide +kernel
theorem dX7_digNow_6 : decode cX7_digNow 6 = .ok (.istore 5, 2) := by decide +kernel
theorem dX7_digNow_8 : decode cX7_digNow 8 = .ok (.iload 5, 2) := by decide +kernel
theorem dX7_digNow_10 : decode cX7_digNow 10 = .ok (.bipush 20, 2) := by decide +kernel
theorem dX7_digNow_12 : decode cX7_digNow 12 = .ok (.if_icmp .gt 77, 3) := by decide +kernel
theorem dX7_digNow_15 : decode cX7_digNow 15 = .ok (.aload_n 0, 1) := by decide +kernel
theorem dX7_digNow_16 : decode cX7_digNow 16 = .ok (.getfield 10, 3) := by decide +kernel
theorem dX7_digNow_19 : decode cX7_digNow 19 = .ok (.getfield 82, 3) := by decide +kernel
theorem dX7_digNow_22 : decode cX7_digNow 22 = .ok (.iload 5, 2) := by decide +kernel
theorem dX7_digNow_24 : decode cX7_digNow 24 = .ok (.iadd, 1) := by decide +kernel
theorem dX7_digNow_25 : decode cX7_digNow 25 = .ok (.bipush 90, 2) := by decide +kernel
theorem dX7_digNow_27 : decode cX7_digNow 27 = .ok (.if_icmp .gt 62, 3) := by decide +kernel
theorem dX7_digNow_30 : decode cX7_digNow 30 = .ok (.aload_n 0, 1) := by decide +kernel
theorem dX7_digNow_31 : decode cX7_digNow 31 = .ok (.getfield 10, 3) := by decide +kernel
theorem dX7_digNow_34 : decode cX7_digNow 34 = .ok (.invokevirtual 145, 3) := by decide +kernel
theorem dX7_digNow_37 : decode cX7_digNow 37 = .ok (.astore 6, 2) := by decide +kernel
theorem dX7_digNow_39 : decode cX7_digNow 39 = .ok (.aload 6, 2) := by decide +kernel
theorem dX7_digNow_41 : decode cX7_digNow 41 = .ok (.dup, 1) := by decide +kernel
theorem dX7_digNow_42 : decode cX7_digNow 42 = .ok (.getfield 82, 3) := by decide +kernel
theorem dX7_digNow_45 : decode cX7_digNow 45 = .ok (.iload 5, 2) := by decide +kernel
theorem dX7_digNow_47 : decode cX7_digNow 47 = .ok (.iadd, 1) := by decide +kernel
theorem dX7_digNow_48 : decode cX7_digNow 48 = .ok (.putfield 82, 3) := by decide +kernel
theorem dX7_digNow_51 : decode cX7_digNow 51 = .ok (.aload 6, 2) := by decide +kernel
theorem dX7_digNow_53 : decode cX7_digNow 53 = .ok (.iload_n 1, 1) := by decide +kernel
theorem dX7_digNow_54 : decode cX7_digNow 54 = .ok (.iload_n 2, 1) := by decide +kernel
theorem dX7_digNow_55 : decode cX7_digNow 55 = .ok (.invokevirtual 109, 3) := by decide +kernel
theorem dX7_digNow_58 : decode cX7_digNow 58 = .ok (.istore 7, 2) := by decide +kernel
theorem dX7_digNow_60 : decode cX7_digNow 60 = .ok (.iload 7, 2) := by decide +kernel
theorem dX7_digNow_62 : decode cX7_digNow 62 = .ok (.iload 4, 2) := by decide +kernel
theorem dX7_digNow_64 : decode cX7_digNow 64 = .ok (.if_icmp .le 8, 3) := by decide +kernel
theorem dX7_digNow_67 : decode cX7_digNow 67 = .ok (.iload 5, 2) := by decide +kernel
theorem dX7_digNow_69 : decode cX7_digNow 69 = .ok (.goto 4, 3) := by decide +kernel
theorem dX7_digNow_72 : decode cX7_digNow 72 = .ok (.iload_n 3, 1) := by decide +kernel
theorem dX7_digNow_73 : decode cX7_digNow 73 = .ok (.istore_n 3, 1) := by decide +kernel
theorem dX7_digNow_74 : decode cX7_digNow 74 = .ok (.iload 4, 2) := by decide +kernel
theorem dX7_digNow_76 : decode cX7_digNow 76 = .ok (.iload 7, 2) := by decide +kernel
theorem dX7_digNow_78 : decode cX7_digNow 78 = .ok (.invokestatic 153, 3) := by decide +kernel
theorem dX7_digNow_81 : decode cX7_digNow 81 = .ok (.istore 4, 2) := by decide +kernel
theorem dX7_digNow_83 : decode cX7_digNow 83 = .ok (.iinc 5 1, 3) := by decide +kernel
theorem dX7_digNow_86 : decode cX7_digNow 86 = .ok (.goto (-78), 3) := by decide +kernel
theorem dX7_digNow_89 : decode cX7_digNow 89 = .ok (.iload_n 3, 1) := by decide +kernel
theorem dX7_digNow_90 : decode cX7_digNow 90 = .ok (.ireturn, 1) := by decide +kernel
theorem dX7_bestDig_0 : decode cX7_bestDig 0 = .ok (.aload_n 0, 1) := by decide +kernel
theorem dX7_bestDig_1 : decode cX7_bestDig 1 = .ok (.iconst 0, 1) := by decide +kernel
theorem dX7_bestDig_2 : decode cX7_bestDig 2 = .ok (.putfield 16, 3) := by decide +kernel
theorem dX7_bestDig_5 : decode cX7_bestDig 5 = .ok (.iload_n 1, 1) := by decide +kernel
theorem dX7_bestDig_6 : decode cX7_bestDig 6 = .ok (.iload_n 2, 1) := by decide +kernel
theorem dX7_bestDig_7 : decode cX7_bestDig 7 = .ok (.bipush 35, 2) := by decide +kernel
theorem dX7_bestDig_9 : decode cX7_bestDig 9 = .ok (.invokestatic 106, 3) := by decide +kernel
theorem dX7_bestDig_12 : decode cX7_bestDig 12 = .ok (.ifCond .ne 9, 3) := by decide +kernel
theorem dX7_bestDig_15 : decode cX7_bestDig 15 = .ok (.aload_n 0, 1) := by decide +kernel
theorem dX7_bestDig_16 : decode cX7_bestDig 16 = .ok (.iconst 1, 1) := by decide +kernel
theorem dX7_bestDig_17 : decode cX7_bestDig 17 = .ok (.invokevirtual 31, 3) := by decide +kernel
theorem dX7_bestDig_20 : decode cX7_bestDig 20 = .ok (.ireturn, 1) := by decide +kernel
theorem dX7_bestDig_21 : decode cX7_bestDig 21 = .ok (.aload_n 0, 1) := by decide +kernel
theorem dX7_bestDig_22 : decode cX7_bestDig 22 = .ok (.iload_n 1, 1) := by decide +kernel
theorem dX7_bestDig_23 : decode cX7_bestDig 23 = .ok (.iload_n 2, 1) := by decide +kernel
theorem dX7_bestDig_24 : decode cX7_bestDig 24 = .ok (.invokevirtual 156, 3) := by decide +kernel
theorem dX7_bestDig_27 : decode cX7_bestDig 27 = .ok (.ireturn, 1) := by decide +kernel
theorem dX7_takesNow_0 : decode cX7_takesNow 0 = .ok (.aload_n 0, 1) := by decide +kernel
theorem dX7_takesNow_1 : decode cX7_takesNow 1 = .ok (.getfield 10, 3) := by decide +kernel
theorem dX7_takesNow_4 : decode cX7_takesNow 4 = .ok (.invokevirtual 145, 3) := by decide +kernel
theorem dX7_takesNow_7 : decode cX7_takesNow 7 = .ok (.astore 4, 2) := by decide +kernel
theorem dX7_takesNow_9 : decode cX7_takesNow 9 = .ok (.aload 4, 2) := by decide +kernel
theorem dX7_takesNow_11 : decode cX7_takesNow 11 = .ok (.iload_n 1, 1) := by decide +kernel
theorem dX7_takesNow_12 : decode cX7_takesNow 12 = .ok (.putfield 96, 3) := by decide +kernel
theorem dX7_takesNow_15 : decode cX7_takesNow 15 = .ok (.aload_n 0, 1) := by decide +kernel
theorem dX7_takesNow_16 : decode cX7_takesNow 16 = .ok (.getfield 10, 3) := by decide +kernel
theorem dX7_takesNow_19 : decode cX7_takesNow 19 = .ok (.invokevirtual 145, 3) := by decide +kernel
theorem dX7_takesNow_22 : decode cX7_takesNow 22 = .ok (.iload_n 2, 1) := by decide +kernel
theorem dX7_takesNow_23 : decode cX7_takesNow 23 = .ok (.iload_n 3, 1) := by decide +kernel
theorem dX7_takesNow_24 : decode cX7_takesNow 24 = .ok (.invokevirtual 109, 3) := by decide +kernel
theorem dX7_takesNow_27 : decode cX7_takesNow 27 = .ok (.aload 4, 2) := by decide +kernel
theorem dX7_takesNow_29 : decode cX7_takesNow 29 = .ok (.iload_n 2, 1) := by decide +kernel
theorem dX7_takesNow_30 : decode cX7_takesNow 30 = .ok (.iload_n 3, 1) := by decide +kernel
theorem dX7_takesNow_31 : decode cX7_takesNow 31 = .ok (.invokevirtual 109, 3) := by decide +kernel
theorem dX7_takesNow_34 : decode cX7_takesNow 34 = .ok (.isub, 1) := by decide +kernel
theorem dX7_takesNow_35 : decode cX7_takesNow 35 = .ok (.ireturn, 1) := by decide +kernel
theorem dX7_pumpTakes_0 : decode cX7_pumpTakes 0 = .ok (.aload_n 0, 1) := by decide +kernel
theorem dX7_pumpTakes_1 : decode cX7_pumpTakes 1 = .ok (.iconst 0, 1) := by decide +kernel
theorem dX7_pumpTakes_2 : decode cX7_pumpTakes 2 = .ok (.putfield 16, 3) := by decide +kernel
theorem dX7_pumpTakes_5 : decode cX7_pumpTakes 5 = .ok (.iload_n 1, 1) := by decide +kernel
theorem dX7_pumpTakes_6 : decode cX7_pumpTakes 6 = .ok (.iconst 0, 1) := by decide +kernel
theorem dX7_pumpTakes_7 : decode cX7_pumpTakes 7 = .ok (.bipush 20, 2) := by decide +kernel
theorem dX7_pumpTakes_9 : decode cX7_pumpTakes 9 = .ok (.invokestatic 23, 3) := by decide +kernel
theorem dX7_pumpTakes_12 : decode cX7_pumpTakes 12 = .ok (.ifCond .eq 13, 3) := by decide +kernel
theorem dX7_pumpTakes_15 : decode cX7_pumpTakes 15 = .ok (.iload_n 2, 1) := by decide +kernel
theorem dX7_pumpTakes_16 : decode cX7_pumpTakes 16 = .ok (.iload_n 3, 1) := by decide +kernel
theorem dX7_pumpTakes_17 : decode cX7_pumpTakes 17 = .ok (.bipush 70, 2) := by decide +kernel
theorem dX7_pumpTakes_19 : decode cX7_pumpTakes 19 = .ok (.invokestatic 106, 3) := by decide +kernel
theorem dX7_pumpTakes_22 : decode cX7_pumpTakes 22 = .ok (.ifCond .ne 9, 3) := by decide +kernel
theorem dX7_pumpTakes_25 : decode cX7_pumpTakes 25 = .ok (.aload_n 0, 1) := by decide +kernel
theorem dX7_pumpTakes_26 : decode cX7_pumpTakes 26 = .ok (.iconst 1, 1) := by decide +kernel
theorem dX7_pumpTakes_27 : decode cX7_pumpTakes 27 = .ok (.invokevirtual 31, 3) := by decide +kernel
theorem dX7_pumpTakes_30 : decode cX7_pumpTakes 30 = .ok (.ireturn, 1) := by decide +kernel
theorem dX7_pumpTakes_31 : decode cX7_pumpTakes 31 = .ok (.aload_n 0, 1) := by decide +kernel
theorem dX7_pumpTakes_32 : decode cX7_pumpTakes 32 = .ok (.iload_n 1, 1) := by decide +kernel
theorem dX7_pumpTakes_33 : decode cX7_pumpTakes 33 = .ok (.iload_n 2, 1) := by decide +kernel
theorem dX7_pumpTakes_34 : decode cX7_pumpTakes 34 = .ok (.iload_n 3, 1) := by decide +kernel
theorem dX7_pumpTakes_35 : decode cX7_pumpTakes 35 = .ok (.invokevirtual 159, 3) := by decide +kernel
theorem dX7_pumpTakes_38 : decode cX7_pumpTakes 38 = .ok (.ireturn, 1) := by decide +kernel
theorem dX7_reapNow_0 : decode cX7_reapNow 0 = .ok (.aload_n 0, 1) := by decide +kernel
theorem dX7_reapNow_1 : decode cX7_reapNow 1 = .ok (.getfield 10, 3) := by decide +kernel
theorem dX7_reapNow_4 : decode cX7_reapNow 4 = .ok (.invokevirtual 145, 3) := by decide +kernel
theorem dX7_reapNow_7 : decode cX7_reapNow 7 = .ok (.astore_n 3, 1) := by decide +kernel
theorem dX7_reapNow_8 : decode cX7_reapNow 8 = .ok (.aload_n 0, 1) := by decide +kernel
theorem dX7_reapNow_9 : decode cX7_reapNow 9 = .ok (.iload_n 1, 1) := by decide +kernel
theorem dX7_reapNow_10 : decode cX7_reapNow 10 = .ok (.invokevirtual 39, 3) := by decide +kernel
theorem dX7_reapNow_13 : decode cX7_reapNow 13 = .ok (.bipush 6, 2) := by decide +kernel
theorem dX7_reapNow_15 : decode cX7_reapNow 15 = .ok (.iaload, 1) := by decide +kernel
theorem dX7_reapNow_16 : decode cX7_reapNow 16 = .ok (.istore 4, 2) := by decide +kernel
theorem dX7_reapNow_18 : decode cX7_reapNow 18 = .ok (.aload_n 3, 1) := by decide +kernel
theorem dX7_reapNow_19 : decode cX7_reapNow 19 = .ok (.iconst 0, 1) := by decide +kernel
theorem dX7_reapNow_20 : decode cX7_reapNow 20 = .ok (.putfield 76, 3) := by decide +kernel
theorem dX7_reapNow_23 : decode cX7_reapNow 23 = .ok (.aload_n 3, 1) := by decide +kernel
theorem dX7_reapNow_24 : decode cX7_reapNow 24 = .ok (.iload_n 2, 1) := by decide +kernel
theorem dX7_reapNow_25 : decode cX7_reapNow 25 = .ok (.invokevirtual 162, 3) := by decide +kernel
theorem dX7_reapNow_28 : decode cX7_reapNow 28 = .ok (.pop, 1) := by decide +kernel
theorem dX7_reapNow_29 : decode cX7_reapNow 29 = .ok (.aload_n 3, 1) := by decide +kernel
theorem dX7_reapNow_30 : decode cX7_reapNow 30 = .ok (.getfield 99, 3) := by decide +kernel
theorem dX7_reapNow_33 : decode cX7_reapNow 33 = .ok (.bipush 70, 2) := by decide +kernel
theorem dX7_reapNow_35 : decode cX7_reapNow 35 = .ok (.irem, 1) := by decide +kernel
theorem dX7_reapNow_36 : decode cX7_reapNow 36 = .ok (.bipush 60, 2) := by decide +kernel
theorem dX7_reapNow_38 : decode cX7_reapNow 38 = .ok (.if_icmp .eq 12, 3) := by decide +kernel
theorem dX7_reapNow_41 : decode cX7_reapNow 41 = .ok (.aload_n 3, 1) := by decide +kernel
theorem dX7_reapNow_42 : decode cX7_reapNow 42 = .ok (.iload_n 2, 1) := by decide +kernel
theorem dX7_reapNow_43 : decode cX7_reapNow 43 = .ok (.invokevirtual 162, 3) := by decide +kernel
theorem dX7_reapNow_46 : decode cX7_reapNow 46 = .ok (.pop, 1) := by decide +kernel
theorem dX7_reapNow_47 : decode cX7_reapNow 47 = .ok (.goto (-18), 3) := by decide +kernel
theorem dX7_reapNow_50 : decode cX7_reapNow 50 = .ok (.aload_n 3, 1) := by decide +kernel
theorem dX7_reapNow_51 : decode cX7_reapNow 51 = .ok (.getfield 27, 3) := by decide +kernel
theorem dX7_reapNow_54 : decode cX7_reapNow 54 = .ok (.iload_n 1, 1) := by decide +kernel
theorem dX7_reapNow_55 : decode cX7_reapNow 55 = .ok (.aaload, 1) := by decide +kernel
theorem dX7_reapNow_56 : decode cX7_reapNow 56 = .ok (.bipush 6, 2) := by decide +kernel
theorem dX7_reapNow_58 : decode cX7_reapNow 58 = .ok (.iaload, 1) := by decide +kernel
theorem dX7_reapNow_59 : decode cX7_reapNow 59 = .ok (.iload 4, 2) := by decide +kernel
theorem dX7_reapNow_61 : decode cX7_reapNow 61 = .ok (.isub, 1) := by decide +kernel
theorem dX7_reapNow_62 : decode cX7_reapNow 62 = .ok (.ireturn, 1) := by decide +kernel
theorem dX7_wouldReap_0 : decode cX7_wouldReap 0 = .ok (.aload_n 0, 1) := by decide +kernel
theorem dX7_wouldReap_1 : decode cX7_wouldReap 1 = .ok (.iconst 0, 1) := by decide +kernel
theorem dX7_wouldReap_2 : decode cX7_wouldReap 2 = .ok (.putfield 16, 3) := by decide +kernel
theorem dX7_wouldReap_5 : decode cX7_wouldReap 5 = .ok (.aload_n 0, 1) := by decide +kernel
theorem dX7_wouldReap_6 : decode cX7_wouldReap 6 = .ok (.iload_n 1, 1) := by decide +kernel
theorem dX7_wouldReap_7 : decode cX7_wouldReap 7 = .ok (.invokevirtual 56, 3) := by decide +kernel
theorem dX7_wouldReap_10 : decode cX7_wouldReap 10 = .ok (.ifCond .ne 9, 3) := by decide +kernel
theorem dX7_wouldReap_13 : decode cX7_wouldReap 13 = .ok (.aload_n 0, 1) := by decide +kernel
theorem dX7_wouldReap_14 : decode cX7_wouldReap 14 = .ok (.iconst 1, 1) := by decide +kernel
theorem dX7_wouldReap_15 : decode cX7_wouldReap 15 = .ok (.invokevirtual 31, 3) := by decide +kernel
theorem dX7_wouldReap_18 : decode cX7_wouldReap 18 = .ok (.ireturn, 1) := by decide +kernel
theorem dX7_wouldReap_19 : decode cX7_wouldReap 19 = .ok (.iload_n 2, 1) := by decide +kernel
theorem dX7_wouldReap_20 : decode cX7_wouldReap 20 = .ok (.iconst 0, 1) := by decide +kernel
theorem dX7_wouldReap_21 : decode cX7_wouldReap 21 = .ok (.bipush 99, 2) := by decide +kernel
theorem dX7_wouldReap_23 : decode cX7_wouldReap 23 = .ok (.invokestatic 23, 3) := by decide +kernel
theorem dX7_wouldReap_26 : decode cX7_wouldReap 26 = .ok (.ifCond .ne 9, 3) := by decide +kernel
theorem dX7_wouldReap_29 : decode cX7_wouldReap 29 = .ok (.aload_n 0, 1) := by decide +kernel
theorem dX7_wouldReap_30 : decode cX7_wouldReap 30 = .ok (.iconst 2, 1) := by decide +kernel
theorem dX7_wouldReap_31 : decode cX7_wouldReap 31 = .ok (.invokevirtual 31, 3) := by decide +kernel
theorem dX7_wouldReap_34 : decode cX7_wouldReap 34 = .ok (.ireturn, 1) := by decide +kernel
theorem dX7_wouldReap_35 : decode cX7_wouldReap 35 = .ok (.aload_n 0, 1) := by decide +kernel
theorem dX7_wouldReap_36 : decode cX7_wouldReap 36 = .ok (.iload_n 1, 1) := by decide +kernel
theorem dX7_wouldReap_37 : decode cX7_wouldReap 37 = .ok (.iload_n 2, 1) := by decide +kernel
theorem dX7_wouldReap_38 : decode cX7_wouldReap 38 = .ok (.invokevirtual 165, 3) := by decide +kernel
theorem dX7_wouldReap_41 : decode cX7_wouldReap 41 = .ok (.ireturn, 1) := by decide +kernel
theorem dX7_digest_0 : decode cX7_digest 0 = .ok (.aload_n 0, 1) := by decide +kernel
theorem dX7_digest_1 : decode cX7_digest 1 = .ok (.iconst 0, 1) := by decide +kernel
theorem dX7_digest_2 : decode cX7_digest 2 = .ok (.putfield 16, 3) := by decide +kernel
theorem dX7_digest_5 : decode cX7_digest 5 = .ok (.ldc2_w 168, 3) := by decide +kernel
theorem dX7_digest_8 : decode cX7_digest 8 = .ok (.lstore_n 1, 1) := by decide +kernel
theorem dX7_digest_9 : decode cX7_digest 9 = .ok (.iconst 0, 1) := by decide +kernel
theorem dX7_digest_10 : decode cX7_digest 10 = .ok (.istore_n 3, 1) := by decide +kernel
theorem dX7_digest_11 : decode cX7_digest 11 = .ok (.iload_n 3, 1) := by decide +kernel
theorem dX7_digest_12 : decode cX7_digest 12 = .ok (.bipush 15, 2) := by decide +kernel
theorem dX7_digest_14 : decode cX7_digest 14 = .ok (.if_icmp .gt 22, 3) := by decide +kernel
theorem dX7_digest_17 : decode cX7_digest 17 = .ok (.lload_n 1, 1) := by decide +kernel
theorem dX7_digest_18 : decode cX7_digest 18 = .ok (.ldc2_w 170, 3) := by decide +kernel
theorem dX7_digest_21 : decode cX7_digest 21 = .ok (.lmul, 1) := by decide +kernel
theorem dX7_digest_22 : decode cX7_digest 22 = .ok (.aload_n 0, 1) := by decide +kernel
theorem dX7_digest_23 : decode cX7_digest 23 = .ok (.iload_n 3, 1) := by decide +kernel
theorem dX7_digest_24 : decode cX7_digest 24 = .ok (.invokevirtual 142, 3) := by decide +kernel
theorem dX7_digest_27 : decode cX7_digest 27 = .ok (.i2l, 1) := by decide +kernel
theorem dX7_digest_28 : decode cX7_digest 28 = .ok (.ladd, 1) := by decide +kernel
theorem dX7_digest_29 : decode cX7_digest 29 = .ok (.lstore_n 1, 1) := by decide +kernel
theorem dX7_digest_30 : decode cX7_digest 30 = .ok (.iinc 3 1, 3) := by decide +kernel
theorem dX7_digest_33 : decode cX7_digest 33 = .ok (.goto (-22), 3) := by decide +kernel
theorem dX7_digest_36 : decode cX7_digest 36 = .ok (.iconst 0, 1) := by decide +kernel
theorem dX7_digest_37 : decode cX7_digest 37 = .ok (.istore_n 3, 1) := by decide +kernel
theorem dX7_digest_38 : decode cX7_digest 38 = .ok (.iload_n 3, 1) := by decide +kernel
theorem dX7_digest_39 : decode cX7_digest 39 = .ok (.aload_n 0, 1) := by decide +kernel
theorem dX7_digest_40 : decode cX7_digest 40 = .ok (.getfield 10, 3) := by decide +kernel
theorem dX7_digest_43 : decode cX7_digest 43 = .ok (.getfield 20, 3) := by decide +kernel
theorem dX7_digest_46 : decode cX7_digest 46 = .ok (.if_icmp .ge 84, 3) := by decide +kernel
theorem dX7_digest_49 : decode cX7_digest 49 = .ok (.aload_n 0, 1) := by decide +kernel
theorem dX7_digest_50 : decode cX7_digest 50 = .ok (.iload_n 3, 1) := by decide +kernel
theorem dX7_digest_51 : decode cX7_digest 51 = .ok (.invokevirtual 39, 3) := by decide +kernel
theorem dX7_digest_54 : decode cX7_digest 54 = .ok (.bipush 11, 2) := by decide +kernel
theorem dX7_digest_56 : decode cX7_digest 56 = .ok (.iaload, 1) := by decide +kernel
theorem dX7_digest_57 : decode cX7_digest 57 = .ok (.ifCond .ne 6, 3) := by decide +kernel
theorem dX7_digest_60 : decode cX7_digest 60 = .ok (.goto 64, 3) := by decide +kernel
theorem dX7_digest_63 : decode cX7_digest 63 = .ok (.iconst 0, 1) := by decide +kernel
theorem dX7_digest_64 : decode cX7_digest 64 = .ok (.istore 4, 2) := by decide +kernel
theorem dX7_digest_66 : decode cX7_digest 66 = .ok (.iload 4, 2) := by decide +kernel
theorem dX7_digest_68 : decode cX7_digest 68 = .ok (.bipush 13, 2) := by decide +kernel
theorem dX7_digest_70 : decode cX7_digest 70 = .ok (.if_icmp .gt 24, 3) := by decide +kernel
theorem dX7_digest_73 : decode cX7_digest 73 = .ok (.lload_n 1, 1) := by decide +kernel
theorem dX7_digest_74 : decode cX7_digest 74 = .ok (.ldc2_w 170, 3) := by decide +kernel
theorem dX7_digest_77 : decode cX7_digest 77 = .ok (.lmul, 1) := by decide +kernel
theorem dX7_digest_78 : decode cX7_digest 78 = .ok (.aload_n 0, 1) := by decide +kernel
theorem dX7_digest_79 : decode cX7_digest 79 = .ok (.iload_n 3, 1) := by decide +kernel
theorem dX7_digest_80 : decode cX7_digest 80 = .ok (.iload 4, 2) := by decide +kernel
theorem dX7_digest_82 : decode cX7_digest 82 = .ok (.invokevirtual 118, 3) := by decide +kernel
theorem dX7_digest_85 : decode cX7_digest 85 = .ok (.i2l, 1) := by decide +kernel
theorem dX7_digest_86 : decode cX7_digest 86 = .ok (.ladd, 1) := by decide +kernel
theorem dX7_digest_87 : decode cX7_digest 87 = .ok (.lstore_n 1, 1) := by decide +kernel
theorem dX7_digest_88 : decode cX7_digest 88 = .ok (.iinc 4 1, 3) := by decide +kernel
theorem dX7_digest_91 : decode cX7_digest 91 = .ok (.goto (-25), 3) := by decide +kernel
theorem dX7_digest_94 : decode cX7_digest 94 = .ok (.lload_n 1, 1) := by decide +kernel
theorem dX7_digest_95 : decode cX7_digest 95 = .ok (.ldc2_w 170, 3) := by decide +kernel
theorem dX7_digest_98 : decode cX7_digest 98 = .ok (.lmul, 1) := by decide +kernel
theorem dX7_digest_99 : decode cX7_digest 99 = .ok (.aload_n 0, 1) := by decide +kernel
theorem dX7_digest_100 : decode cX7_digest 100 = .ok (.iload_n 3, 1) := by decide +kernel
theorem dX7_digest_101 : decode cX7_digest 101 = .ok (.iconst 0, 1) := by decide +kernel
theorem dX7_digest_102 : decode cX7_digest 102 = .ok (.bipush 7, 2) := by decide +kernel
theorem dX7_digest_104 : decode cX7_digest 104 = .ok (.invokevirtual 149, 3) := by decide +kernel
theorem dX7_digest_107 : decode cX7_digest 107 = .ok (.i2l, 1) := by decide +kernel
theorem dX7_digest_108 : decode cX7_digest 108 = .ok (.ladd, 1) := by decide +kernel
theorem dX7_digest_109 : decode cX7_digest 109 = .ok (.lstore_n 1, 1) := by decide +kernel
theorem dX7_digest_110 : decode cX7_digest 110 = .ok (.lload_n 1, 1) := by decide +kernel
theorem dX7_digest_111 : decode cX7_digest 111 = .ok (.ldc2_w 170, 3) := by decide +kernel
theorem dX7_digest_114 : decode cX7_digest 114 = .ok (.lmul, 1) := by decide +kernel
theorem dX7_digest_115 : decode cX7_digest 115 = .ok (.aload_n 0, 1) := by decide +kernel
theorem dX7_digest_116 : decode cX7_digest 116 = .ok (.iload_n 3, 1) := by decide +kernel
theorem dX7_digest_117 : decode cX7_digest 117 = .ok (.iconst 3, 1) := by decide +kernel
theorem dX7_digest_118 : decode cX7_digest 118 = .ok (.invokevirtual 165, 3) := by decide +kernel
theorem dX7_digest_121 : decode cX7_digest 121 = .ok (.i2l, 1) := by decide +kernel
theorem dX7_digest_122 : decode cX7_digest 122 = .ok (.ladd, 1) := by decide +kernel
theorem dX7_digest_123 : decode cX7_digest 123 = .ok (.lstore_n 1, 1) := by decide +kernel
theorem dX7_digest_124 : decode cX7_digest 124 = .ok (.iinc 3 1, 3) := by decide +kernel
theorem dX7_digest_127 : decode cX7_digest 127 = .ok (.goto (-89), 3) := by decide +kernel
theorem dX7_digest_130 : decode cX7_digest 130 = .ok (.iconst 0, 1) := by decide +kernel
theorem dX7_digest_131 : decode cX7_digest 131 = .ok (.istore_n 3, 1) := by decide +kernel
theorem dX7_digest_132 : decode cX7_digest 132 = .ok (.iload_n 3, 1) := by decide +kernel
theorem dX7_digest_133 : decode cX7_digest 133 = .ok (.sipush 4320, 3) := by decide +kernel
theorem dX7_digest_136 : decode cX7_digest 136 = .ok (.if_icmp .gt 42, 3) := by decide +kernel
theorem dX7_digest_139 : decode cX7_digest 139 = .ok (.lload_n 1, 1) := by decide +kernel
theorem dX7_digest_140 : decode cX7_digest 140 = .ok (.ldc2_w 170, 3) := by decide +kernel
theorem dX7_digest_143 : decode cX7_digest 143 = .ok (.lmul, 1) := by decide +kernel
theorem dX7_digest_144 : decode cX7_digest 144 = .ok (.aload_n 0, 1) := by decide +kernel
theorem dX7_digest_145 : decode cX7_digest 145 = .ok (.getfield 10, 3) := by decide +kernel
theorem dX7_digest_148 : decode cX7_digest 148 = .ok (.iload_n 3, 1) := by decide +kernel
theorem dX7_digest_149 : decode cX7_digest 149 = .ok (.invokevirtual 121, 3) := by decide +kernel
theorem dX7_digest_152 : decode cX7_digest 152 = .ok (.i2l, 1) := by decide +kernel
theorem dX7_digest_153 : decode cX7_digest 153 = .ok (.ladd, 1) := by decide +kernel
theorem dX7_digest_154 : decode cX7_digest 154 = .ok (.ldc2_w 170, 3) := by decide +kernel
theorem dX7_digest_157 : decode cX7_digest 157 = .ok (.lmul, 1) := by decide +kernel
theorem dX7_digest_158 : decode cX7_digest 158 = .ok (.aload_n 0, 1) := by decide +kernel
theorem dX7_digest_159 : decode cX7_digest 159 = .ok (.getfield 10, 3) := by decide +kernel
theorem dX7_digest_162 : decode cX7_digest 162 = .ok (.iload_n 3, 1) := by decide +kernel
theorem dX7_digest_163 : decode cX7_digest 163 = .ok (.invokevirtual 124, 3) := by decide +kernel
theorem dX7_digest_166 : decode cX7_digest 166 = .ok (.i2l, 1) := by decide +kernel
theorem dX7_digest_167 : decode cX7_digest 167 = .ok (.ladd, 1) := by decide +kernel
theorem dX7_digest_168 : decode cX7_digest 168 = .ok (.lstore_n 1, 1) := by decide +kernel
theorem dX7_digest_169 : decode cX7_digest 169 = .ok (.iinc 3 720, 6) := by decide +kernel
theorem dX7_digest_175 : decode cX7_digest 175 = .ok (.goto (-43), 3) := by decide +kernel
theorem dX7_digest_178 : decode cX7_digest 178 = .ok (.iconst 0, 1) := by decide +kernel
theorem dX7_digest_179 : decode cX7_digest 179 = .ok (.istore_n 3, 1) := by decide +kernel
theorem dX7_digest_180 : decode cX7_digest 180 = .ok (.iload_n 3, 1) := by decide +kernel
theorem dX7_digest_181 : decode cX7_digest 181 = .ok (.aload_n 0, 1) := by decide +kernel
theorem dX7_digest_182 : decode cX7_digest 182 = .ok (.getfield 10, 3) := by decide +kernel
theorem dX7_digest_185 : decode cX7_digest 185 = .ok (.getfield 63, 3) := by decide +kernel
theorem dX7_digest_188 : decode cX7_digest 188 = .ok (.if_icmp .ge 44, 3) := by decide +kernel
theorem dX7_digest_191 : decode cX7_digest 191 = .ok (.iconst 0, 1) := by decide +kernel
theorem dX7_digest_192 : decode cX7_digest 192 = .ok (.istore 4, 2) := by decide +kernel
theorem dX7_digest_194 : decode cX7_digest 194 = .ok (.iload 4, 2) := by decide +kernel
theorem dX7_digest_196 : decode cX7_digest 196 = .ok (.iconst 3, 1) := by decide +kernel
theorem dX7_digest_197 : decode cX7_digest 197 = .ok (.if_icmp .gt 29, 3) := by decide +kernel
theorem dX7_digest_200 : decode cX7_digest 200 = .ok (.lload_n 1, 1) := by decide +kernel
theorem dX7_digest_201 : decode cX7_digest 201 = .ok (.ldc2_w 170, 3) := by decide +kernel
theorem dX7_digest_204 : decode cX7_digest 204 = .ok (.lmul, 1) := by decide +kernel
theorem dX7_digest_205 : decode cX7_digest 205 = .ok (.aload_n 0, 1) := by decide +kernel
theorem dX7_digest_206 : decode cX7_digest 206 = .ok (.getfield 10, 3) := by decide +kernel
theorem dX7_digest_209 : decode cX7_digest 209 = .ok (.getfield 66, 3) := by decide +kernel
theorem dX7_digest_212 : decode cX7_digest 212 = .ok (.iload_n 3, 1) := by decide +kernel
theorem dX7_digest_213 : decode cX7_digest 213 = .ok (.aaload, 1) := by decide +kernel
theorem dX7_digest_214 : decode cX7_digest 214 = .ok (.iload 4, 2) := by decide +kernel
theorem dX7_digest_216 : decode cX7_digest 216 = .ok (.iaload, 1) := by decide +kernel
theorem dX7_digest_217 : decode cX7_digest 217 = .ok (.i2l, 1) := by decide +kernel
theorem dX7_digest_218 : decode cX7_digest 218 = .ok (.ladd, 1) := by decide +kernel
theorem dX7_digest_219 : decode cX7_digest 219 = .ok (.lstore_n 1, 1) := by decide +kernel
theorem dX7_digest_220 : decode cX7_digest 220 = .ok (.iinc 4 1, 3) := by decide +kernel
theorem dX7_digest_223 : decode cX7_digest 223 = .ok (.goto (-29), 3) := by decide +kernel
theorem dX7_digest_226 : decode cX7_digest 226 = .ok (.iinc 3 1, 3) := by decide +kernel
theorem dX7_digest_229 : decode cX7_digest 229 = .ok (.goto (-49), 3) := by decide +kernel
theorem dX7_digest_232 : decode cX7_digest 232 = .ok (.iconst 0, 1) := by decide +kernel
theorem dX7_digest_233 : decode cX7_digest 233 = .ok (.istore_n 3, 1) := by decide +kernel
theorem dX7_digest_234 : decode cX7_digest 234 = .ok (.iload_n 3, 1) := by decide +kernel
theorem dX7_digest_235 : decode cX7_digest 235 = .ok (.aload_n 0, 1) := by decide +kernel
theorem dX7_digest_236 : decode cX7_digest 236 = .ok (.getfield 10, 3) := by decide +kernel
theorem dX7_digest_239 : decode cX7_digest 239 = .ok (.getfield 76, 3) := by decide +kernel
theorem dX7_digest_242 : decode cX7_digest 242 = .ok (.if_icmp .ge 44, 3) := by decide +kernel
theorem dX7_digest_245 : decode cX7_digest 245 = .ok (.iconst 0, 1) := by decide +kernel
theorem dX7_digest_246 : decode cX7_digest 246 = .ok (.istore 4, 2) := by decide +kernel
theorem dX7_digest_248 : decode cX7_digest 248 = .ok (.iload 4, 2) := by decide +kernel
theorem dX7_digest_250 : decode cX7_digest 250 = .ok (.iconst 2, 1) := by decide +kernel
theorem dX7_digest_251 : decode cX7_digest 251 = .ok (.if_icmp .gt 29, 3) := by decide +kernel
theorem dX7_digest_254 : decode cX7_digest 254 = .ok (.lload_n 1, 1) := by decide +kernel
theorem dX7_digest_255 : decode cX7_digest 255 = .ok (.ldc2_w 170, 3) := by decide +kernel
theorem dX7_digest_258 : decode cX7_digest 258 = .ok (.lmul, 1) := by decide +kernel
theorem dX7_digest_259 : decode cX7_digest 259 = .ok (.aload_n 0, 1) := by decide +kernel
theorem dX7_digest_260 : decode cX7_digest 260 = .ok (.getfield 10, 3) := by decide +kernel
theorem dX7_digest_263 : decode cX7_digest 263 = .ok (.getfield 79, 3) := by decide +kernel
theorem dX7_digest_266 : decode cX7_digest 266 = .ok (.iload_n 3, 1) := by decide +kernel
theorem dX7_digest_267 : decode cX7_digest 267 = .ok (.aaload, 1) := by decide +kernel
theorem dX7_digest_268 : decode cX7_digest 268 = .ok (.iload 4, 2) := by decide +kernel
theorem dX7_digest_270 : decode cX7_digest 270 = .ok (.iaload, 1) := by decide +kernel
theorem dX7_digest_271 : decode cX7_digest 271 = .ok (.i2l, 1) := by decide +kernel
theorem dX7_digest_272 : decode cX7_digest 272 = .ok (.ladd, 1) := by decide +kernel
theorem dX7_digest_273 : decode cX7_digest 273 = .ok (.lstore_n 1, 1) := by decide +kernel
theorem dX7_digest_274 : decode cX7_digest 274 = .ok (.iinc 4 1, 3) := by decide +kernel
theorem dX7_digest_277 : decode cX7_digest 277 = .ok (.goto (-29), 3) := by decide +kernel
theorem dX7_digest_280 : decode cX7_digest 280 = .ok (.iinc 3 1, 3) := by decide +kernel
theorem dX7_digest_283 : decode cX7_digest 283 = .ok (.goto (-49), 3) := by decide +kernel
theorem dX7_digest_286 : decode cX7_digest 286 = .ok (.lload_n 1, 1) := by decide +kernel
theorem dX7_digest_287 : decode cX7_digest 287 = .ok (.ldc2_w 170, 3) := by decide +kernel
theorem dX7_digest_290 : decode cX7_digest 290 = .ok (.lmul, 1) := by decide +kernel
theorem dX7_digest_291 : decode cX7_digest 291 = .ok (.aload_n 0, 1) := by decide +kernel
theorem dX7_digest_292 : decode cX7_digest 292 = .ok (.iconst 0, 1) := by decide +kernel
theorem dX7_digest_293 : decode cX7_digest 293 = .ok (.iconst 3, 1) := by decide +kernel
theorem dX7_digest_294 : decode cX7_digest 294 = .ok (.invokevirtual 156, 3) := by decide +kernel
theorem dX7_digest_297 : decode cX7_digest 297 = .ok (.i2l, 1) := by decide +kernel
theorem dX7_digest_298 : decode cX7_digest 298 = .ok (.ladd, 1) := by decide +kernel
theorem dX7_digest_299 : decode cX7_digest 299 = .ok (.lstore_n 1, 1) := by decide +kernel
theorem dX7_digest_300 : decode cX7_digest 300 = .ok (.lload_n 1, 1) := by decide +kernel
theorem dX7_digest_301 : decode cX7_digest 301 = .ok (.ldc2_w 170, 3) := by decide +kernel
theorem dX7_digest_304 : decode cX7_digest 304 = .ok (.lmul, 1) := by decide +kernel
theorem dX7_digest_305 : decode cX7_digest 305 = .ok (.aload_n 0, 1) := by decide +kernel
theorem dX7_digest_306 : decode cX7_digest 306 = .ok (.iconst 5, 1) := by decide +kernel
theorem dX7_digest_307 : decode cX7_digest 307 = .ok (.iconst 0, 1) := by decide +kernel
theorem dX7_digest_308 : decode cX7_digest 308 = .ok (.bipush 9, 2) := by decide +kernel
theorem dX7_digest_310 : decode cX7_digest 310 = .ok (.invokevirtual 159, 3) := by decide +kernel
theorem dX7_digest_313 : decode cX7_digest 313 = .ok (.i2l, 1) := by decide +kernel
theorem dX7_digest_314 : decode cX7_digest 314 = .ok (.ladd, 1) := by decide +kernel
theorem dX7_digest_315 : decode cX7_digest 315 = .ok (.lreturn, 1) := by decide +kernel
theorem dL_owner_0 : decode cL_owner 0 = .ok (.aload 5, 2) := by decide +kernel
theorem dL_owner_2 : decode cL_owner 2 = .ok (.iconst 0, 1) := by decide +kernel
theorem dL_owner_3 : decode cL_owner 3 = .ok (.aload_n 0, 1) := by decide +kernel
theorem dL_owner_4 : decode cL_owner 4 = .ok (.iload_n 1, 1) := by decide +kernel
theorem dL_owner_5 : decode cL_owner 5 = .ok (.iload_n 2, 1) := by decide +kernel
theorem dL_owner_6 : decode cL_owner 6 = .ok (.iload_n 3, 1) := by decide +kernel
theorem dL_owner_7 : decode cL_owner 7 = .ok (.iload 4, 2) := by decide +kernel
theorem dL_owner_9 : decode cL_owner 9 = .ok (.invokevirtual 7, 3) := by decide +kernel
theorem dL_owner_12 : decode cL_owner 12 = .ok (.i2l, 1) := by decide +kernel
theorem dL_owner_13 : decode cL_owner 13 = .ok (.lastore, 1) := by decide +kernel
theorem dL_owner_14 : decode cL_owner 14 = .ok (.goto 11, 3) := by decide +kernel
theorem dL_owner_17 : decode cL_owner 17 = .ok (.astore 6, 2) := by decide +kernel
theorem dL_owner_19 : decode cL_owner 19 = .ok (.iconst 1, 1) := by decide +kernel
theorem dL_owner_20 : decode cL_owner 20 = .ok (.ireturn, 1) := by decide +kernel
theorem dL_owner_21 : decode cL_owner 21 = .ok (.astore 6, 2) := by decide +kernel
theorem dL_owner_23 : decode cL_owner 23 = .ok (.iconst 2, 1) := by decide +kernel
theorem dL_owner_24 : decode cL_owner 24 = .ok (.ireturn, 1) := by decide +kernel
theorem dL_owner_25 : decode cL_owner 25 = .ok (.iconst 0, 1) := by decide +kernel
theorem dL_owner_26 : decode cL_owner 26 = .ok (.ireturn, 1) := by decide +kernel
theorem dL_sell_0 : decode cL_sell 0 = .ok (.aload 5, 2) := by decide +kernel
theorem dL_sell_2 : decode cL_sell 2 = .ok (.iconst 0, 1) := by decide +kernel
theorem dL_sell_3 : decode cL_sell 3 = .ok (.aload_n 0, 1) := by decide +kernel
theorem dL_sell_4 : decode cL_sell 4 = .ok (.iload_n 1, 1) := by decide +kernel
theorem dL_sell_5 : decode cL_sell 5 = .ok (.iload_n 2, 1) := by decide +kernel
theorem dL_sell_6 : decode cL_sell 6 = .ok (.iload_n 3, 1) := by decide +kernel
theorem dL_sell_7 : decode cL_sell 7 = .ok (.iload 4, 2) := by decide +kernel
theorem dL_sell_9 : decode cL_sell 9 = .ok (.invokevirtual 17, 3) := by decide +kernel
theorem dL_sell_12 : decode cL_sell 12 = .ok (.i2l, 1) := by decide +kernel
theorem dL_sell_13 : decode cL_sell 13 = .ok (.lastore, 1) := by decide +kernel
theorem dL_sell_14 : decode cL_sell 14 = .ok (.goto 11, 3) := by decide +kernel
theorem dL_sell_17 : decode cL_sell 17 = .ok (.astore 6, 2) := by decide +kernel
theorem dL_sell_19 : decode cL_sell 19 = .ok (.iconst 1, 1) := by decide +kernel
theorem dL_sell_20 : decode cL_sell 20 = .ok (.ireturn, 1) := by decide +kernel
theorem dL_sell_21 : decode cL_sell 21 = .ok (.astore 6, 2) := by decide +kernel
theorem dL_sell_23 : decode cL_sell 23 = .ok (.iconst 2, 1) := by decide +kernel
theorem dL_sell_24 : decode cL_sell 24 = .ok (.ireturn, 1) := by decide +kernel
theorem dL_sell_25 : decode cL_sell 25 = .ok (.iconst 0, 1) := by decide +kernel
theorem dL_sell_26 : decode cL_sell 26 = .ok (.ireturn, 1) := by decide +kernel
theorem dL_lend_0 : decode cL_lend 0 = .ok (.aload 5, 2) := by decide +kernel
theorem dL_lend_2 : decode cL_lend 2 = .ok (.iconst 0, 1) := by decide +kernel
theorem dL_lend_3 : decode cL_lend 3 = .ok (.aload_n 0, 1) := by decide +kernel
theorem dL_lend_4 : decode cL_lend 4 = .ok (.iload_n 1, 1) := by decide +kernel
theorem dL_lend_5 : decode cL_lend 5 = .ok (.iload_n 2, 1) := by decide +kernel
theorem dL_lend_6 : decode cL_lend 6 = .ok (.iload_n 3, 1) := by decide +kernel
theorem dL_lend_7 : decode cL_lend 7 = .ok (.iload 4, 2) := by decide +kernel
theorem dL_lend_9 : decode cL_lend 9 = .ok (.invokevirtual 22, 3) := by decide +kernel
theorem dL_lend_12 : decode cL_lend 12 = .ok (.i2l, 1) := by decide +kernel
theorem dL_lend_13 : decode cL_lend 13 = .ok (.lastore, 1) := by decide +kernel
theorem dL_lend_14 : decode cL_lend 14 = .ok (.goto 15, 3) := by decide +kernel
theorem dL_lend_17 : decode cL_lend 17 = .ok (.astore 6, 2) := by decide +kernel
theorem dL_lend_19 : decode cL_lend 19 = .ok (.iconst 1, 1) := by decide +kernel
theorem dL_lend_20 : decode cL_lend 20 = .ok (.ireturn, 1) := by decide +kernel
theorem dL_lend_21 : decode cL_lend 21 = .ok (.astore 6, 2) := by decide +kernel
theorem dL_lend_23 : decode cL_lend 23 = .ok (.iconst 2, 1) := by decide +kernel
theorem dL_lend_24 : decode cL_lend 24 = .ok (.ireturn, 1) := by decide +kernel
theorem dL_lend_25 : decode cL_lend 25 = .ok (.astore 6, 2) := by decide +kernel
theorem dL_lend_27 : decode cL_lend 27 = .ok (.iconst 3, 1) := by decide +kernel
theorem dL_lend_28 : decode cL_lend 28 = .ok (.ireturn, 1) := by decide +kernel
theorem dL_lend_29 : decode cL_lend 29 = .ok (.iconst 0, 1) := by decide +kernel
theorem dL_lend_30 : decode cL_lend 30 = .ok (.ireturn, 1) := by decide +kernel
theorem dL_die_0 : decode cL_die 0 = .ok (.aload 4, 2) := by decide +kernel
theorem dL_die_2 : decode cL_die 2 = .ok (.iconst 0, 1) := by decide +kernel
theorem dL_die_3 : decode cL_die 3 = .ok (.aload_n 0, 1) := by decide +kernel
theorem dL_die_4 : decode cL_die 4 = .ok (.iload_n 1, 1) := by decide +kernel
theorem dL_die_5 : decode cL_die 5 = .ok (.iload_n 2, 1) := by decide +kernel
theorem dL_die_6 : decode cL_die 6 = .ok (.iload_n 3, 1) := by decide +kernel
theorem dL_die_7 : decode cL_die 7 = .ok (.invokevirtual 25, 3) := by decide +kernel
theorem dL_die_10 : decode cL_die 10 = .ok (.i2l, 1) := by decide +kernel
theorem dL_die_11 : decode cL_die 11 = .ok (.lastore, 1) := by decide +kernel
theorem dL_die_12 : decode cL_die 12 = .ok (.goto 15, 3) := by decide +kernel
theorem dL_die_15 : decode cL_die 15 = .ok (.astore 5, 2) := by decide +kernel
theorem dL_die_17 : decode cL_die 17 = .ok (.iconst 1, 1) := by decide +kernel
theorem dL_die_18 : decode cL_die 18 = .ok (.ireturn, 1) := by decide +kernel
theorem dL_die_19 : decode cL_die 19 = .ok (.astore 5, 2) := by decide +kernel
theorem dL_die_21 : decode cL_die 21 = .ok (.iconst 2, 1) := by decide +kernel
theorem dL_die_22 : decode cL_die 22 = .ok (.ireturn, 1) := by decide +kernel
theorem dL_die_23 : decode cL_die 23 = .ok (.astore 5, 2) := by decide +kernel
theorem dL_die_25 : decode cL_die 25 = .ok (.iconst 3, 1) := by decide +kernel
theorem dL_die_26 : decode cL_die 26 = .ok (.ireturn, 1) := by decide +kernel
theorem dL_die_27 : decode cL_die 27 = .ok (.iconst 0, 1) := by decide +kernel
theorem dL_die_28 : decode cL_die 28 = .ok (.ireturn, 1) := by decide +kernel
theorem dL_dig_0 : decode cL_dig 0 = .ok (.aload_n 2, 1) := by decide +kernel
theorem dL_dig_1 : decode cL_dig 1 = .ok (.iconst 0, 1) := by decide +kernel
theorem dL_dig_2 : decode cL_dig 2 = .ok (.aload_n 0, 1) := by decide +kernel
theorem dL_dig_3 : decode cL_dig 3 = .ok (.iload_n 1, 1) := by decide +kernel
theorem dL_dig_4 : decode cL_dig 4 = .ok (.invokevirtual 29, 3) := by decide +kernel
theorem dL_dig_7 : decode cL_dig 7 = .ok (.i2l, 1) := by decide +kernel
theorem dL_dig_8 : decode cL_dig 8 = .ok (.lastore, 1) := by decide +kernel
theorem dL_dig_9 : decode cL_dig 9 = .ok (.goto 9, 3) := by decide +kernel
theorem dL_dig_12 : decode cL_dig 12 = .ok (.astore_n 3, 1) := by decide +kernel
theorem dL_dig_13 : decode cL_dig 13 = .ok (.iconst 1, 1) := by decide +kernel
theorem dL_dig_14 : decode cL_dig 14 = .ok (.ireturn, 1) := by decide +kernel
theorem dL_dig_15 : decode cL_dig 15 = .ok (.astore_n 3, 1) := by decide +kernel
theorem dL_dig_16 : decode cL_dig 16 = .ok (.iconst 2, 1) := by decide +kernel
theorem dL_dig_17 : decode cL_dig 17 = .ok (.ireturn, 1) := by decide +kernel
theorem dL_dig_18 : decode cL_dig 18 = .ok (.iconst 0, 1) := by decide +kernel
theorem dL_dig_19 : decode cL_dig 19 = .ok (.ireturn, 1) := by decide +kernel
theorem dL_clean_0 : decode cL_clean 0 = .ok (.aload_n 2, 1) := by decide +kernel
theorem dL_clean_1 : decode cL_clean 1 = .ok (.iconst 0, 1) := by decide +kernel
theorem dL_clean_2 : decode cL_clean 2 = .ok (.aload_n 0, 1) := by decide +kernel
theorem dL_clean_3 : decode cL_clean 3 = .ok (.iload_n 1, 1) := by decide +kernel
theorem dL_clean_4 : decode cL_clean 4 = .ok (.invokevirtual 33, 3) := by decide +kernel
theorem dL_clean_7 : decode cL_clean 7 = .ok (.i2l, 1) := by decide +kernel
theorem dL_clean_8 : decode cL_clean 8 = .ok (.lastore, 1) := by decide +kernel
theorem dL_clean_9 : decode cL_clean 9 = .ok (.goto 9, 3) := by decide +kernel
theorem dL_clean_12 : decode cL_clean 12 = .ok (.astore_n 3, 1) := by decide +kernel
theorem dL_clean_13 : decode cL_clean 13 = .ok (.iconst 1, 1) := by decide +kernel
theorem dL_clean_14 : decode cL_clean 14 = .ok (.ireturn, 1) := by decide +kernel
theorem dL_clean_15 : decode cL_clean 15 = .ok (.astore_n 3, 1) := by decide +kernel
theorem dL_clean_16 : decode cL_clean 16 = .ok (.iconst 2, 1) := by decide +kernel
theorem dL_clean_17 : decode cL_clean 17 = .ok (.ireturn, 1) := by decide +kernel
theorem dL_clean_18 : decode cL_clean 18 = .ok (.iconst 0, 1) := by decide +kernel
theorem dL_clean_19 : decode cL_clean 19 = .ok (.ireturn, 1) := by decide +kernel
theorem dL_fall_0 : decode cL_fall 0 = .ok (.aload_n 2, 1) := by decide +kernel
theorem dL_fall_1 : decode cL_fall 1 = .ok (.iconst 0, 1) := by decide +kernel
theorem dL_fall_2 : decode cL_fall 2 = .ok (.aload_n 0, 1) := by decide +kernel
theorem dL_fall_3 : decode cL_fall 3 = .ok (.iload_n 1, 1) := by decide +kernel
theorem dL_fall_4 : decode cL_fall 4 = .ok (.invokevirtual 36, 3) := by decide +kernel
theorem dL_fall_7 : decode cL_fall 7 = .ok (.i2l, 1) := by decide +kernel
theorem dL_fall_8 : decode cL_fall 8 = .ok (.lastore, 1) := by decide +kernel
theorem dL_fall_9 : decode cL_fall 9 = .ok (.goto 6, 3) := by decide +kernel
theorem dL_fall_12 : decode cL_fall 12 = .ok (.astore_n 3, 1) := by decide +kernel
theorem dL_fall_13 : decode cL_fall 13 = .ok (.iconst 1, 1) := by decide +kernel
theorem dL_fall_14 : decode cL_fall 14 = .ok (.ireturn, 1) := by decide +kernel
theorem dL_fall_15 : decode cL_fall 15 = .ok (.iconst 0, 1) := by decide +kernel
theorem dL_fall_16 : decode cL_fall 16 = .ok (.ireturn, 1) := by decide +kernel
theorem dL_pump_0 : decode cL_pump 0 = .ok (.aload_n 2, 1) := by decide +kernel
theorem dL_pump_1 : decode cL_pump 1 = .ok (.iconst 0, 1) := by decide +kernel
theorem dL_pump_2 : decode cL_pump 2 = .ok (.aload_n 0, 1) := by decide +kernel
theorem dL_pump_3 : decode cL_pump 3 = .ok (.iload_n 1, 1) := by decide +kernel
theorem dL_pump_4 : decode cL_pump 4 = .ok (.invokevirtual 39, 3) := by decide +kernel
theorem dL_pump_7 : decode cL_pump 7 = .ok (.i2l, 1) := by decide +kernel
theorem dL_pump_8 : decode cL_pump 8 = .ok (.lastore, 1) := by decide +kernel
theorem dL_pump_9 : decode cL_pump 9 = .ok (.goto 6, 3) := by decide +kernel
theorem dL_pump_12 : decode cL_pump 12 = .ok (.astore_n 3, 1) := by decide +kernel
theorem dL_pump_13 : decode cL_pump 13 = .ok (.iconst 1, 1) := by decide +kernel
theorem dL_pump_14 : decode cL_pump 14 = .ok (.ireturn, 1) := by decide +kernel
theorem dL_pump_15 : decode cL_pump 15 = .ok (.iconst 0, 1) := by decide +kernel
theorem dL_pump_16 : decode cL_pump 16 = .ok (.ireturn, 1) := by decide +kernel
theorem dL_pollinate_0 : decode cL_pollinate 0 = .ok (.aload_n 3, 1) := by decide +kernel
theorem dL_pollinate_1 : decode cL_pollinate 1 = .ok (.iconst 0, 1) := by decide +kernel
theorem dL_pollinate_2 : decode cL_pollinate 2 = .ok (.aload_n 0, 1) := by decide +kernel
theorem dL_pollinate_3 : decode cL_pollinate 3 = .ok (.iload_n 1, 1) := by decide +kernel
theorem dL_pollinate_4 : decode cL_pollinate 4 = .ok (.iload_n 2, 1) := by decide +kernel
theorem dL_pollinate_5 : decode cL_pollinate 5 = .ok (.invokevirtual 42, 3) := by decide +kernel
theorem dL_pollinate_8 : decode cL_pollinate 8 = .ok (.i2l, 1) := by decide +kernel
theorem dL_pollinate_9 : decode cL_pollinate 9 = .ok (.lastore, 1) := by decide +kernel
theorem dL_pollinate_10 : decode cL_pollinate 10 = .ok (.goto 11, 3) := by decide +kernel
theorem dL_pollinate_13 : decode cL_pollinate 13 = .ok (.astore 4, 2) := by decide +kernel
theorem dL_pollinate_15 : decode cL_pollinate 15 = .ok (.iconst 1, 1) := by decide +kernel
theorem dL_pollinate_16 : decode cL_pollinate 16 = .ok (.ireturn, 1) := by decide +kernel
theorem dL_pollinate_17 : decode cL_pollinate 17 = .ok (.astore 4, 2) := by decide +kernel
theorem dL_pollinate_19 : decode cL_pollinate 19 = .ok (.iconst 2, 1) := by decide +kernel
theorem dL_pollinate_20 : decode cL_pollinate 20 = .ok (.ireturn, 1) := by decide +kernel
theorem dL_pollinate_21 : decode cL_pollinate 21 = .ok (.iconst 0, 1) := by decide +kernel
theorem dL_pollinate_22 : decode cL_pollinate 22 = .ok (.ireturn, 1) := by decide +kernel
theorem dL_pollen_0 : decode cL_pollen 0 = .ok (.aload 4, 2) := by decide +kernel
theorem dL_pollen_2 : decode cL_pollen 2 = .ok (.iconst 0, 1) := by decide +kernel
theorem dL_pollen_3 : decode cL_pollen 3 = .ok (.aload_n 0, 1) := by decide +kernel
theorem dL_pollen_4 : decode cL_pollen 4 = .ok (.iload_n 1, 1) := by decide +kernel
theorem dL_pollen_5 : decode cL_pollen 5 = .ok (.iload_n 2, 1) := by decide +kernel
theorem dL_pollen_6 : decode cL_pollen 6 = .ok (.iload_n 3, 1) := by decide +kernel
theorem dL_pollen_7 : decode cL_pollen 7 = .ok (.invokevirtual 46, 3) := by decide +kernel
theorem dL_pollen_10 : decode cL_pollen 10 = .ok (.i2l, 1) := by decide +kernel
theorem dL_pollen_11 : decode cL_pollen 11 = .ok (.lastore, 1) := by decide +kernel
theorem dL_pollen_12 : decode cL_pollen 12 = .ok (.goto 11, 3) := by decide +kernel
theorem dL_pollen_15 : decode cL_pollen 15 = .ok (.astore 5, 2) := by decide +kernel
theorem dL_pollen_17 : decode cL_pollen 17 = .ok (.iconst 1, 1) := by decide +kernel
theorem dL_pollen_18 : decode cL_pollen 18 = .ok (.ireturn, 1) := by decide +kernel
theorem dL_pollen_19 : decode cL_pollen 19 = .ok (.astore 5, 2) := by decide +kernel
theorem dL_pollen_21 : decode cL_pollen 21 = .ok (.iconst 2, 1) := by decide +kernel
theorem dL_pollen_22 : decode cL_pollen 22 = .ok (.ireturn, 1) := by decide +kernel
theorem dL_pollen_23 : decode cL_pollen 23 = .ok (.iconst 0, 1) := by decide +kernel
theorem dL_pollen_24 : decode cL_pollen 24 = .ok (.ireturn, 1) := by decide +kernel
theorem dL_ahead_0 : decode cL_ahead 0 = .ok (.aload 5, 2) := by decide +kernel
theorem dL_ahead_2 : decode cL_ahead 2 = .ok (.iconst 0, 1) := by decide +kernel
theorem dL_ahead_3 : decode cL_ahead 3 = .ok (.aload_n 0, 1) := by decide +kernel
theorem dL_ahead_4 : decode cL_ahead 4 = .ok (.iload_n 1, 1) := by decide +kernel
theorem dL_ahead_5 : decode cL_ahead 5 = .ok (.iload_n 2, 1) := by decide +kernel
theorem dL_ahead_6 : decode cL_ahead 6 = .ok (.iload_n 3, 1) := by decide +kernel
theorem dL_ahead_7 : decode cL_ahead 7 = .ok (.iload 4, 2) := by decide +kernel
theorem dL_ahead_9 : decode cL_ahead 9 = .ok (.invokevirtual 49, 3) := by decide +kernel
theorem dL_ahead_12 : decode cL_ahead 12 = .ok (.i2l, 1) := by decide +kernel
theorem dL_ahead_13 : decode cL_ahead 13 = .ok (.lastore, 1) := by decide +kernel
theorem dL_ahead_14 : decode cL_ahead 14 = .ok (.goto 15, 3) := by decide +kernel
theorem dL_ahead_17 : decode cL_ahead 17 = .ok (.astore 6, 2) := by decide +kernel
theorem dL_ahead_19 : decode cL_ahead 19 = .ok (.iconst 1, 1) := by decide +kernel
theorem dL_ahead_20 : decode cL_ahead 20 = .ok (.ireturn, 1) := by decide +kernel
theorem dL_ahead_21 : decode cL_ahead 21 = .ok (.astore 6, 2) := by decide +kernel
theorem dL_ahead_23 : decode cL_ahead 23 = .ok (.iconst 2, 1) := by decide +kernel
theorem dL_ahead_24 : decode cL_ahead 24 = .ok (.ireturn, 1) := by decide +kernel
theorem dL_ahead_25 : decode cL_ahead 25 = .ok (.astore 6, 2) := by decide +kernel
theorem dL_ahead_27 : decode cL_ahead 27 = .ok (.iconst 3, 1) := by decide +kernel
theorem dL_ahead_28 : decode cL_ahead 28 = .ok (.ireturn, 1) := by decide +kernel
theorem dL_ahead_29 : decode cL_ahead 29 = .ok (.iconst 0, 1) := by decide +kernel
theorem dL_ahead_30 : decode cL_ahead 30 = .ok (.ireturn, 1) := by decide +kernel
theorem dL_pass_0 : decode cL_pass 0 = .ok (.aload_n 3, 1) := by decide +kernel
theorem dL_pass_1 : decode cL_pass 1 = .ok (.iconst 0, 1) := by decide +kernel
theorem dL_pass_2 : decode cL_pass 2 = .ok (.aload_n 0, 1) := by decide +kernel
theorem dL_pass_3 : decode cL_pass 3 = .ok (.iload_n 1, 1) := by decide +kernel
theorem dL_pass_4 : decode cL_pass 4 = .ok (.iload_n 2, 1) := by decide +kernel
theorem dL_pass_5 : decode cL_pass 5 = .ok (.invokevirtual 52, 3) := by decide +kernel
theorem dL_pass_8 : decode cL_pass 8 = .ok (.i2l, 1) := by decide +kernel
theorem dL_pass_9 : decode cL_pass 9 = .ok (.lastore, 1) := by decide +kernel
theorem dL_pass_10 : decode cL_pass 10 = .ok (.goto 11, 3) := by decide +kernel
theorem dL_pass_13 : decode cL_pass 13 = .ok (.astore 4, 2) := by decide +kernel
theorem dL_pass_15 : decode cL_pass 15 = .ok (.iconst 1, 1) := by decide +kernel
theorem dL_pass_16 : decode cL_pass 16 = .ok (.ireturn, 1) := by decide +kernel
theorem dL_pass_17 : decode cL_pass 17 = .ok (.astore 4, 2) := by decide +kernel
theorem dL_pass_19 : decode cL_pass 19 = .ok (.iconst 2, 1) := by decide +kernel
theorem dL_pass_20 : decode cL_pass 20 = .ok (.ireturn, 1) := by decide +kernel
theorem dL_pass_21 : decode cL_pass 21 = .ok (.iconst 0, 1) := by decide +kernel
theorem dL_pass_22 : decode cL_pass 22 = .ok (.ireturn, 1) := by decide +kernel
theorem dL_of_0 : decode cL_of 0 = .ok (.aload_n 3, 1) := by decide +kernel
theorem dL_of_1 : decode cL_of 1 = .ok (.iconst 0, 1) := by decide +kernel
theorem dL_of_2 : decode cL_of 2 = .ok (.aload_n 0, 1) := by decide +kernel
theorem dL_of_3 : decode cL_of 3 = .ok (.iload_n 1, 1) := by decide +kernel
theorem dL_of_4 : decode cL_of 4 = .ok (.iload_n 2, 1) := by decide +kernel
theorem dL_of_5 : decode cL_of 5 = .ok (.invokevirtual 55, 3) := by decide +kernel
theorem dL_of_8 : decode cL_of 8 = .ok (.i2l, 1) := by decide +kernel
theorem dL_of_9 : decode cL_of 9 = .ok (.lastore, 1) := by decide +kernel
theorem dL_of_10 : decode cL_of 10 = .ok (.goto 11, 3) := by decide +kernel
theorem dL_of_13 : decode cL_of 13 = .ok (.astore 4, 2) := by decide +kernel
theorem dL_of_15 : decode cL_of 15 = .ok (.iconst 1, 1) := by decide +kernel
theorem dL_of_16 : decode cL_of 16 = .ok (.ireturn, 1) := by decide +kernel
theorem dL_of_17 : decode cL_of 17 = .ok (.astore 4, 2) := by decide +kernel
theorem dL_of_19 : decode cL_of 19 = .ok (.iconst 2, 1) := by decide +kernel
theorem dL_of_20 : decode cL_of 20 = .ok (.ireturn, 1) := by decide +kernel
theorem dL_of_21 : decode cL_of 21 = .ok (.iconst 0, 1) := by decide +kernel
theorem dL_of_22 : decode cL_of 22 = .ok (.ireturn, 1) := by decide +kernel
theorem dL_ofBowl_0 : decode cL_ofBowl 0 = .ok (.aload_n 3, 1) := by decide +kernel
theorem dL_ofBowl_1 : decode cL_ofBowl 1 = .ok (.iconst 0, 1) := by decide +kernel
theorem dL_ofBowl_2 : decode cL_ofBowl 2 = .ok (.aload_n 0, 1) := by decide +kernel
theorem dL_ofBowl_3 : decode cL_ofBowl 3 = .ok (.iload_n 1, 1) := by decide +kernel
theorem dL_ofBowl_4 : decode cL_ofBowl 4 = .ok (.iload_n 2, 1) := by decide +kernel
theorem dL_ofBowl_5 : decode cL_ofBowl 5 = .ok (.invokevirtual 58, 3) := by decide +kernel
theorem dL_ofBowl_8 : decode cL_ofBowl 8 = .ok (.i2l, 1) := by decide +kernel
theorem dL_ofBowl_9 : decode cL_ofBowl 9 = .ok (.lastore, 1) := by decide +kernel
theorem dL_ofBowl_10 : decode cL_ofBowl 10 = .ok (.goto 11, 3) := by decide +kernel
theorem dL_ofBowl_13 : decode cL_ofBowl 13 = .ok (.astore 4, 2) := by decide +kernel
theorem dL_ofBowl_15 : decode cL_ofBowl 15 = .ok (.iconst 1, 1) := by decide +kernel
theorem dL_ofBowl_16 : decode cL_ofBowl 16 = .ok (.ireturn, 1) := by decide +kernel
theorem dL_ofBowl_17 : decode cL_ofBowl 17 = .ok (.astore 4, 2) := by decide +kernel
theorem dL_ofBowl_19 : decode cL_ofBowl 19 = .ok (.iconst 2, 1) := by decide +kernel
theorem dL_ofBowl_20 : decode cL_ofBowl 20 = .ok (.ireturn, 1) := by decide +kernel
theorem dL_ofBowl_21 : decode cL_ofBowl 21 = .ok (.iconst 0, 1) := by decide +kernel
theorem dL_ofBowl_22 : decode cL_ofBowl 22 = .ok (.ireturn, 1) := by decide +kernel
theorem dL_ofLoan_0 : decode cL_ofLoan 0 = .ok (.aload_n 3, 1) := by decide +kernel
theorem dL_ofLoan_1 : decode cL_ofLoan 1 = .ok (.iconst 0, 1) := by decide +kernel
theorem dL_ofLoan_2 : decode cL_ofLoan 2 = .ok (.aload_n 0, 1) := by decide +kernel
theorem dL_ofLoan_3 : decode cL_ofLoan 3 = .ok (.iload_n 1, 1) := by decide +kernel
theorem dL_ofLoan_4 : decode cL_ofLoan 4 = .ok (.iload_n 2, 1) := by decide +kernel
theorem dL_ofLoan_5 : decode cL_ofLoan 5 = .ok (.invokevirtual 61, 3) := by decide +kernel
theorem dL_ofLoan_8 : decode cL_ofLoan 8 = .ok (.i2l, 1) := by decide +kernel
theorem dL_ofLoan_9 : decode cL_ofLoan 9 = .ok (.lastore, 1) := by decide +kernel
theorem dL_ofLoan_10 : decode cL_ofLoan 10 = .ok (.goto 11, 3) := by decide +kernel
theorem dL_ofLoan_13 : decode cL_ofLoan 13 = .ok (.astore 4, 2) := by decide +kernel
theorem dL_ofLoan_15 : decode cL_ofLoan 15 = .ok (.iconst 1, 1) := by decide +kernel
theorem dL_ofLoan_16 : decode cL_ofLoan 16 = .ok (.ireturn, 1) := by decide +kernel
theorem dL_ofLoan_17 : decode cL_ofLoan 17 = .ok (.astore 4, 2) := by decide +kernel
theorem dL_ofLoan_19 : decode cL_ofLoan 19 = .ok (.iconst 2, 1) := by decide +kernel
theorem dL_ofLoan_20 : decode cL_ofLoan 20 = .ok (.ireturn, 1) := by decide +kernel
theorem dL_ofLoan_21 : decode cL_ofLoan 21 = .ok (.iconst 0, 1) := by decide +kernel
theorem dL_ofLoan_22 : decode cL_ofLoan 22 = .ok (.ireturn, 1) := by decide +kernel
theorem dL_ofSale_0 : decode cL_ofSale 0 = .ok (.aload_n 3, 1) := by decide +kernel
theorem dL_ofSale_1 : decode cL_ofSale 1 = .ok (.iconst 0, 1) := by decide +kernel
theorem dL_ofSale_2 : decode cL_ofSale 2 = .ok (.aload_n 0, 1) := by decide +kernel
theorem dL_ofSale_3 : decode cL_ofSale 3 = .ok (.iload_n 1, 1) := by decide +kernel
theorem dL_ofSale_4 : decode cL_ofSale 4 = .ok (.iload_n 2, 1) := by decide +kernel
theorem dL_ofSale_5 : decode cL_ofSale 5 = .ok (.invokevirtual 64, 3) := by decide +kernel
theorem dL_ofSale_8 : decode cL_ofSale 8 = .ok (.i2l, 1) := by decide +kernel
theorem dL_ofSale_9 : decode cL_ofSale 9 = .ok (.lastore, 1) := by decide +kernel
theorem dL_ofSale_10 : decode cL_ofSale 10 = .ok (.goto 11, 3) := by decide +kernel
theorem dL_ofSale_13 : decode cL_ofSale 13 = .ok (.astore 4, 2) := by decide +kernel
theorem dL_ofSale_15 : decode cL_ofSale 15 = .ok (.iconst 1, 1) := by decide +kernel
theorem dL_ofSale_16 : decode cL_ofSale 16 = .ok (.ireturn, 1) := by decide +kernel
theorem dL_ofSale_17 : decode cL_ofSale 17 = .ok (.astore 4, 2) := by decide +kernel
theorem dL_ofSale_19 : decode cL_ofSale 19 = .ok (.iconst 2, 1) := by decide +kernel
theorem dL_ofSale_20 : decode cL_ofSale 20 = .ok (.ireturn, 1) := by decide +kernel
theorem dL_ofSale_21 : decode cL_ofSale 21 = .ok (.iconst 0, 1) := by decide +kernel
theorem dL_ofSale_22 : decode cL_ofSale 22 = .ok (.ireturn, 1) := by decide +kernel
theorem dL_many_0 : decode cL_many 0 = .ok (.aload_n 2, 1) := by decide +kernel
theorem dL_many_1 : decode cL_many 1 = .ok (.iconst 0, 1) := by decide +kernel
theorem dL_many_2 : decode cL_many 2 = .ok (.aload_n 0, 1) := by decide +kernel
theorem dL_many_3 : decode cL_many 3 = .ok (.iload_n 1, 1) := by decide +kernel
theorem dL_many_4 : decode cL_many 4 = .ok (.invokevirtual 67, 3) := by decide +kernel
theorem dL_many_7 : decode cL_many 7 = .ok (.i2l, 1) := by decide +kernel
theorem dL_many_8 : decode cL_many 8 = .ok (.lastore, 1) := by decide +kernel
theorem dL_many_9 : decode cL_many 9 = .ok (.goto 6, 3) := by decide +kernel
theorem dL_many_12 : decode cL_many 12 = .ok (.astore_n 3, 1) := by decide +kernel
theorem dL_many_13 : decode cL_many 13 = .ok (.iconst 1, 1) := by decide +kernel
theorem dL_many_14 : decode cL_many 14 = .ok (.ireturn, 1) := by decide +kernel
theorem dL_many_15 : decode cL_many 15 = .ok (.iconst 0, 1) := by decide +kernel
theorem dL_many_16 : decode cL_many 16 = .ok (.ireturn, 1) := by decide +kernel
theorem dL_wouldCome_0 : decode cL_wouldCome 0 = .ok (.aload 4, 2) := by decide +kernel
theorem dL_wouldCome_2 : decode cL_wouldCome 2 = .ok (.iconst 0, 1) := by decide +kernel
theorem dL_wouldCome_3 : decode cL_wouldCome 3 = .ok (.aload_n 0, 1) := by decide +kernel
theorem dL_wouldCome_4 : decode cL_wouldCome 4 = .ok (.iload_n 1, 1) := by decide +kernel
theorem dL_wouldCome_5 : decode cL_wouldCome 5 = .ok (.iload_n 2, 1) := by decide +kernel
theorem dL_wouldCome_6 : decode cL_wouldCome 6 = .ok (.iload_n 3, 1) := by decide +kernel
theorem dL_wouldCome_7 : decode cL_wouldCome 7 = .ok (.invokevirtual 70, 3) := by decide +kernel
theorem dL_wouldCome_10 : decode cL_wouldCome 10 = .ok (.i2l, 1) := by decide +kernel
theorem dL_wouldCome_11 : decode cL_wouldCome 11 = .ok (.lastore, 1) := by decide +kernel
theorem dL_wouldCome_12 : decode cL_wouldCome 12 = .ok (.goto 11, 3) := by decide +kernel
theorem dL_wouldCome_15 : decode cL_wouldCome 15 = .ok (.astore 5, 2) := by decide +kernel
theorem dL_wouldCome_17 : decode cL_wouldCome 17 = .ok (.iconst 1, 1) := by decide +kernel
theorem dL_wouldCome_18 : decode cL_wouldCome 18 = .ok (.ireturn, 1) := by decide +kernel
theorem dL_wouldCome_19 : decode cL_wouldCome 19 = .ok (.astore 5, 2) := by decide +kernel
theorem dL_wouldCome_21 : decode cL_wouldCome 21 = .ok (.iconst 2, 1) := by decide +kernel
theorem dL_wouldCome_22 : decode cL_wouldCome 22 = .ok (.ireturn, 1) := by decide +kernel
theorem dL_wouldCome_23 : decode cL_wouldCome 23 = .ok (.iconst 0, 1) := by decide +kernel
theorem dL_wouldCome_24 : decode cL_wouldCome 24 = .ok (.ireturn, 1) := by decide +kernel
theorem dL_bestDig_0 : decode cL_bestDig 0 = .ok (.aload_n 3, 1) := by decide +kernel
theorem dL_bestDig_1 : decode cL_bestDig 1 = .ok (.iconst 0, 1) := by decide +kernel
theorem dL_bestDig_2 : decode cL_bestDig 2 = .ok (.aload_n 0, 1) := by decide +kernel
theorem dL_bestDig_3 : decode cL_bestDig 3 = .ok (.iload_n 1, 1) := by decide +kernel
theorem dL_bestDig_4 : decode cL_bestDig 4 = .ok (.iload_n 2, 1) := by decide +kernel
theorem dL_bestDig_5 : decode cL_bestDig 5 = .ok (.invokevirtual 73, 3) := by decide +kernel
theorem dL_bestDig_8 : decode cL_bestDig 8 = .ok (.i2l, 1) := by decide +kernel
theorem dL_bestDig_9 : decode cL_bestDig 9 = .ok (.lastore, 1) := by decide +kernel
theorem dL_bestDig_10 : decode cL_bestDig 10 = .ok (.goto 7, 3) := by decide +kernel
theorem dL_bestDig_13 : decode cL_bestDig 13 = .ok (.astore 4, 2) := by decide +kernel
theorem dL_bestDig_15 : decode cL_bestDig 15 = .ok (.iconst 1, 1) := by decide +kernel
theorem dL_bestDig_16 : decode cL_bestDig 16 = .ok (.ireturn, 1) := by decide +kernel
theorem dL_bestDig_17 : decode cL_bestDig 17 = .ok (.iconst 0, 1) := by decide +kernel
theorem dL_bestDig_18 : decode cL_bestDig 18 = .ok (.ireturn, 1) := by decide +kernel
theorem dL_pumpTakes_0 : decode cL_pumpTakes 0 = .ok (.aload 4, 2) := by decide +kernel
theorem dL_pumpTakes_2 : decode cL_pumpTakes 2 = .ok (.iconst 0, 1) := by decide +kernel
theorem dL_pumpTakes_3 : decode cL_pumpTakes 3 = .ok (.aload_n 0, 1) := by decide +kernel
theorem dL_pumpTakes_4 : decode cL_pumpTakes 4 = .ok (.iload_n 1, 1) := by decide +kernel
theorem dL_pumpTakes_5 : decode cL_pumpTakes 5 = .ok (.iload_n 2, 1) := by decide +kernel
theorem dL_pumpTakes_6 : decode cL_pumpTakes 6 = .ok (.iload_n 3, 1) := by decide +kernel
theorem dL_pumpTakes_7 : decode cL_pumpTakes 7 = .ok (.invokevirtual 76, 3) := by decide +kernel
theorem dL_pumpTakes_10 : decode cL_pumpTakes 10 = .ok (.i2l, 1) := by decide +kernel
theorem dL_pumpTakes_11 : decode cL_pumpTakes 11 = .ok (.lastore, 1) := by decide +kernel
theorem dL_pumpTakes_12 : decode cL_pumpTakes 12 = .ok (.goto 7, 3) := by decide +kernel
theorem dL_pumpTakes_15 : decode cL_pumpTakes 15 = .ok (.astore 5, 2) := by decide +kernel
theorem dL_pumpTakes_17 : decode cL_pumpTakes 17 = .ok (.iconst 1, 1) := by decide +kernel
theorem dL_pumpTakes_18 : decode cL_pumpTakes 18 = .ok (.ireturn, 1) := by decide +kernel
theorem dL_pumpTakes_19 : decode cL_pumpTakes 19 = .ok (.iconst 0, 1) := by decide +kernel
theorem dL_pumpTakes_20 : decode cL_pumpTakes 20 = .ok (.ireturn, 1) := by decide +kernel
theorem dL_wouldReap_0 : decode cL_wouldReap 0 = .ok (.aload_n 3, 1) := by decide +kernel
theorem dL_wouldReap_1 : decode cL_wouldReap 1 = .ok (.iconst 0, 1) := by decide +kernel
theorem dL_wouldReap_2 : decode cL_wouldReap 2 = .ok (.aload_n 0, 1) := by decide +kernel
theorem dL_wouldReap_3 : decode cL_wouldReap 3 = .ok (.iload_n 1, 1) := by decide +kernel
theorem dL_wouldReap_4 : decode cL_wouldReap 4 = .ok (.iload_n 2, 1) := by decide +kernel
theorem dL_wouldReap_5 : decode cL_wouldReap 5 = .ok (.invokevirtual 79, 3) := by decide +kernel
theorem dL_wouldReap_8 : decode cL_wouldReap 8 = .ok (.i2l, 1) := by decide +kernel
theorem dL_wouldReap_9 : decode cL_wouldReap 9 = .ok (.lastore, 1) := by decide +kernel
theorem dL_wouldReap_10 : decode cL_wouldReap 10 = .ok (.goto 11, 3) := by decide +kernel
theorem dL_wouldReap_13 : decode cL_wouldReap 13 = .ok (.astore 4, 2) := by decide +kernel
theorem dL_wouldReap_15 : decode cL_wouldReap 15 = .ok (.iconst 1, 1) := by decide +kernel
theorem dL_wouldReap_16 : decode cL_wouldReap 16 = .ok (.ireturn, 1) := by decide +kernel
theorem dL_wouldReap_17 : decode cL_wouldReap 17 = .ok (.astore 4, 2) := by decide +kernel
theorem dL_wouldReap_19 : decode cL_wouldReap 19 = .ok (.iconst 2, 1) := by decide +kernel
theorem dL_wouldReap_20 : decode cL_wouldReap 20 = .ok (.ireturn, 1) := by decide +kernel
theorem dL_wouldReap_21 : decode cL_wouldReap 21 = .ok (.iconst 0, 1) := by decide +kernel
theorem dL_wouldReap_22 : decode cL_wouldReap 22 = .ok (.ireturn, 1) := by decide +kernel
theorem dL_law_0 : decode cL_law 0 = .ok (.new 8, 3) := by decide +kernel
theorem dL_law_3 : decode cL_law 3 = .ok (.dup, 1) := by decide +kernel
theorem dL_law_4 : decode cL_law 4 = .ok (.invokespecial 82, 3) := by decide +kernel
theorem dL_law_7 : decode cL_law 7 = .ok (.astore_n 1, 1) := by decide +kernel
theorem dL_law_8 : decode cL_law 8 = .ok (.new 83, 3) := by decide +kernel
theorem dL_law_11 : decode cL_law 11 = .ok (.dup, 1) := by decide +kernel
theorem dL_law_12 : decode cL_law 12 = .ok (.invokespecial 85, 3) := by decide +kernel
theorem dL_law_15 : decode cL_law 15 = .ok (.astore_n 2, 1) := by decide +kernel
theorem dL_law_16 : decode cL_law 16 = .ok (.iconst 1, 1) := by decide +kernel
theorem dL_law_17 : decode cL_law 17 = .ok (.newarray .long, 2) := by decide +kernel
theorem dL_law_19 : decode cL_law 19 = .ok (.astore_n 3, 1) := by decide +kernel
theorem dL_law_20 : decode cL_law 20 = .ok (.iconst 0, 1) := by decide +kernel
theorem dL_law_21 : decode cL_law 21 = .ok (.istore 4, 2) := by decide +kernel
theorem dL_law_23 : decode cL_law 23 = .ok (.iload 4, 2) := by decide +kernel
theorem dL_law_25 : decode cL_law 25 = .ok (.aload_n 0, 1) := by decide +kernel
theorem dL_law_26 : decode cL_law 26 = .ok (.arraylength, 1) := by decide +kernel
theorem dL_law_27 : decode cL_law 27 = .ok (.iconst 5, 1) := by decide +kernel
theorem dL_law_28 : decode cL_law 28 = .ok (.isub, 1) := by decide +kernel
theorem dL_law_29 : decode cL_law 29 = .ok (.if_icmp .gt 1688, 3) := by decide +kernel
theorem dL_law_32 : decode cL_law 32 = .ok (.aload_n 0, 1) := by decide +kernel
theorem dL_law_33 : decode cL_law 33 = .ok (.iload 4, 2) := by decide +kernel
theorem dL_law_35 : decode cL_law 35 = .ok (.iaload, 1) := by decide +kernel
theorem dL_law_36 : decode cL_law 36 = .ok (.bipush 31, 2) := by decide +kernel
theorem dL_law_38 : decode cL_law 38 = .ok (.iand, 1) := by decide +kernel
theorem dL_law_39 : decode cL_law 39 = .ok (.tableswitch 1672 0 22 #[105, 197, 289, 381, 461, 517, 573, 629, 685, 753, 833, 925, 993, 1061, 1129, 1197, 1265, 1321, 1362, 1442, 1510, 1590, 1658], 105) := by decide +kernel
theorem dL_law_144 : decode cL_law 144 = .ok (.aload_n 1, 1) := by decide +kernel
theorem dL_law_145 : decode cL_law 145 = .ok (.aload_n 0, 1) := by decide +kernel
theorem dL_law_146 : decode cL_law 146 = .ok (.iload 4, 2) := by decide +kernel
theorem dL_law_148 : decode cL_law 148 = .ok (.iconst 1, 1) := by decide +kernel
theorem dL_law_149 : decode cL_law 149 = .ok (.iadd, 1) := by decide +kernel
theorem dL_law_150 : decode cL_law 150 = .ok (.iaload, 1) := by decide +kernel
theorem dL_law_151 : decode cL_law 151 = .ok (.aload_n 0, 1) := by decide +kernel
theorem dL_law_152 : decode cL_law 152 = .ok (.iload 4, 2) := by decide +kernel
theorem dL_law_154 : decode cL_law 154 = .ok (.iconst 2, 1) := by decide +kernel
theorem dL_law_155 : decode cL_law 155 = .ok (.iadd, 1) := by decide +kernel
theorem dL_law_156 : decode cL_law 156 = .ok (.iaload, 1) := by decide +kernel
theorem dL_law_157 : decode cL_law 157 = .ok (.aload_n 0, 1) := by decide +kernel
theorem dL_law_158 : decode cL_law 158 = .ok (.iload 4, 2) := by decide +kernel
theorem dL_law_160 : decode cL_law 160 = .ok (.iconst 3, 1) := by decide +kernel
theorem dL_law_161 : decode cL_law 161 = .ok (.iadd, 1) := by decide +kernel
theorem dL_law_162 : decode cL_law 162 = .ok (.iaload, 1) := by decide +kernel
theorem dL_law_163 : decode cL_law 163 = .ok (.aload_n 0, 1) := by decide +kernel
theorem dL_law_164 : decode cL_law 164 = .ok (.iload 4, 2) := by decide +kernel
theorem dL_law_166 : decode cL_law 166 = .ok (.iconst 4, 1) := by decide +kernel
theorem dL_law_167 : decode cL_law 167 = .ok (.iadd, 1) := by decide +kernel
theorem dL_law_168 : decode cL_law 168 = .ok (.iaload, 1) := by decide +kernel
theorem dL_law_169 : decode cL_law 169 = .ok (.aload_n 3, 1) := by decide +kernel
theorem dL_law_170 : decode cL_law 170 = .ok (.invokestatic 86, 3) := by decide +kernel
theorem dL_law_173 : decode cL_law 173 = .ok (.istore 5, 2) := by decide +kernel
theorem dL_law_175 : decode cL_law 175 = .ok (.aload_n 2, 1) := by decide +kernel
theorem dL_law_176 : decode cL_law 176 = .ok (.aload_n 0, 1) := by decide +kernel
theorem dL_law_177 : decode cL_law 177 = .ok (.iload 4, 2) := by decide +kernel
theorem dL_law_179 : decode cL_law 179 = .ok (.iconst 1, 1) := by decide +kernel
theorem dL_law_180 : decode cL_law 180 = .ok (.iadd, 1) := by decide +kernel
theorem dL_law_181 : decode cL_law 181 = .ok (.iaload, 1) := by decide +kernel
theorem dL_law_182 : decode cL_law 182 = .ok (.aload_n 0, 1) := by decide +kernel
theorem dL_law_183 : decode cL_law 183 = .ok (.iload 4, 2) := by decide +kernel
theorem dL_law_185 : decode cL_law 185 = .ok (.iconst 2, 1) := by decide +kernel
theorem dL_law_186 : decode cL_law 186 = .ok (.iadd, 1) := by decide +kernel
theorem dL_law_187 : decode cL_law 187 = .ok (.iaload, 1) := by decide +kernel
theorem dL_law_188 : decode cL_law 188 = .ok (.aload_n 0, 1) := by decide +kernel
theorem dL_law_189 : decode cL_law 189 = .ok (.iload 4, 2) := by decide +kernel
theorem dL_law_191 : decode cL_law 191 = .ok (.iconst 3, 1) := by decide +kernel
theorem dL_law_192 : decode cL_law 192 = .ok (.iadd, 1) := by decide +kernel
theorem dL_law_193 : decode cL_law 193 = .ok (.iaload, 1) := by decide +kernel
theorem dL_law_194 : decode cL_law 194 = .ok (.aload_n 0, 1) := by decide +kernel
theorem dL_law_195 : decode cL_law 195 = .ok (.iload 4, 2) := by decide +kernel
theorem dL_law_197 : decode cL_law 197 = .ok (.iconst 4, 1) := by decide +kernel
theorem dL_law_198 : decode cL_law 198 = .ok (.iadd, 1) := by decide +kernel
theorem dL_law_199 : decode cL_law 199 = .ok (.iaload, 1) := by decide +kernel
theorem dL_law_200 : decode cL_law 200 = .ok (.invokevirtual 91, 3) := by decide +kernel
theorem dL_law_203 : decode cL_law 203 = .ok (.istore 6, 2) := by decide +kernel
theorem dL_law_205 : decode cL_law 205 = .ok (.aload_n 2, 1) := by decide +kernel
theorem dL_law_206 : decode cL_law 206 = .ok (.invokevirtual 92, 3) := by decide +kernel
theorem dL_law_209 : decode cL_law 209 = .ok (.iload 5, 2) := by decide +kernel
theorem dL_law_211 : decode cL_law 211 = .ok (.if_icmp .eq 5, 3) := by decide +kernel
theorem dL_law_214 : decode cL_law 214 = .ok (.iconst 0, 1) := by decide +kernel
theorem dL_law_215 : decode cL_law 215 = .ok (.ireturn, 1) := by decide +kernel
theorem dL_law_216 : decode cL_law 216 = .ok (.iload 5, 2) := by decide +kernel
theorem dL_law_218 : decode cL_law 218 = .ok (.ifCond .ne 15, 3) := by decide +kernel
theorem dL_law_221 : decode cL_law 221 = .ok (.aload_n 3, 1) := by decide +kernel
theorem dL_law_222 : decode cL_law 222 = .ok (.iconst 0, 1) := by decide +kernel
theorem dL_law_223 : decode cL_law 223 = .ok (.laload, 1) := by decide +kernel
theorem dL_law_224 : decode cL_law 224 = .ok (.iload 6, 2) := by decide +kernel
theorem dL_law_226 : decode cL_law 226 = .ok (.i2l, 1) := by decide +kernel
theorem dL_law_227 : decode cL_law 227 = .ok (.lcmp, 1) := by decide +kernel
theorem dL_law_228 : decode cL_law 228 = .ok (.ifCond .eq 5, 3) := by decide +kernel
theorem dL_law_231 : decode cL_law 231 = .ok (.iconst 0, 1) := by decide +kernel
theorem dL_law_232 : decode cL_law 232 = .ok (.ireturn, 1) := by decide +kernel
theorem dL_law_233 : decode cL_law 233 = .ok (.goto 1478, 3) := by decide +kernel
theorem dL_law_236 : decode cL_law 236 = .ok (.aload_n 1, 1) := by decide +kernel
theorem dL_law_237 : decode cL_law 237 = .ok (.aload_n 0, 1) := by decide +kernel
theorem dL_law_238 : decode cL_law 238 = .ok (.iload 4, 2) := by decide +kernel
theorem dL_law_240 : decode cL_law 240 = .ok (.iconst 1, 1) := by decide +kernel
theorem dL_law_241 : decode cL_law 241 = .ok (.iadd, 1) := by decide +kernel
theorem dL_law_242 : decode cL_law 242 = .ok (.iaload, 1) := by decide +kernel
theorem dL_law_243 : decode cL_law 243 = .ok (.aload_n 0, 1) := by decide +kernel
theorem dL_law_244 : decode cL_law 244 = .ok (.iload 4, 2) := by decide +kernel
theorem dL_law_246 : decode cL_law 246 = .ok (.iconst 2, 1) := by decide +kernel
theorem dL_law_247 : decode cL_law 247 = .ok (.iadd, 1) := by decide +kernel
theorem dL_law_248 : decode cL_law 248 = .ok (.iaload, 1) := by decide +kernel
theorem dL_law_249 : decode cL_law 249 = .ok (.aload_n 0, 1) := by decide +kernel
theorem dL_law_250 : decode cL_law 250 = .ok (.iload 4, 2) := by decide +kernel
theorem dL_law_252 : decode cL_law 252 = .ok (.iconst 3, 1) := by decide +kernel
theorem dL_law_253 : decode cL_law 253 = .ok (.iadd, 1) := by decide +kernel
theorem dL_law_254 : decode cL_law 254 = .ok (.iaload, 1) := by decide +kernel
theorem dL_law_255 : decode cL_law 255 = .ok (.aload_n 0, 1) := by decide +kernel
theorem dL_law_256 : decode cL_law 256 = .ok (.iload 4, 2) := by decide +kernel
theorem dL_law_258 : decode cL_law 258 = .ok (.iconst 4, 1) := by decide +kernel
theorem dL_law_259 : decode cL_law 259 = .ok (.iadd, 1) := by decide +kernel
theorem dL_law_260 : decode cL_law 260 = .ok (.iaload, 1) := by decide +kernel
theorem dL_law_261 : decode cL_law 261 = .ok (.aload_n 3, 1) := by decide +kernel
theorem dL_law_262 : decode cL_law 262 = .ok (.invokestatic 96, 3) := by decide +kernel
theorem dL_law_265 : decode cL_law 265 = .ok (.istore 5, 2) := by decide +kernel
theorem dL_law_267 : decode cL_law 267 = .ok (.aload_n 2, 1) := by decide +kernel
theorem dL_law_268 : decode cL_law 268 = .ok (.aload_n 0, 1) := by decide +kernel
theorem dL_law_269 : decode cL_law 269 = .ok (.iload 4, 2) := by decide +kernel
theorem dL_law_271 : decode cL_law 271 = .ok (.iconst 1, 1) := by decide +kernel
theorem dL_law_272 : decode cL_law 272 = .ok (.iadd, 1) := by decide +kernel
theorem dL_law_273 : decode cL_law 273 = .ok (.iaload, 1) := by decide +kernel
theorem dL_law_274 : decode cL_law 274 = .ok (.aload_n 0, 1) := by decide +kernel
theorem dL_law_275 : decode cL_law 275 = .ok (.iload 4, 2) := by decide +kernel
theorem dL_law_277 : decode cL_law 277 = .ok (.iconst 2, 1) := by decide +kernel
theorem dL_law_278 : decode cL_law 278 = .ok (.iadd, 1) := by decide +kernel
theorem dL_law_279 : decode cL_law 279 = .ok (.iaload, 1) := by decide +kernel
theorem dL_law_280 : decode cL_law 280 = .ok (.aload_n 0, 1) := by decide +kernel
theorem dL_law_281 : decode cL_law 281 = .ok (.iload 4, 2) := by decide +kernel
theorem dL_law_283 : decode cL_law 283 = .ok (.iconst 3, 1) := by decide +kernel
theorem dL_law_284 : decode cL_law 284 = .ok (.iadd, 1) := by decide +kernel
theorem dL_law_285 : decode cL_law 285 = .ok (.iaload, 1) := by decide +kernel
theorem dL_law_286 : decode cL_law 286 = .ok (.aload_n 0, 1) := by decide +kernel
theorem dL_law_287 : decode cL_law 287 = .ok (.iload 4, 2) := by decide +kernel
theorem dL_law_289 : decode cL_law 289 = .ok (.iconst 4, 1) := by decide +kernel
theorem dL_law_290 : decode cL_law 290 = .ok (.iadd, 1) := by decide +kernel
theorem dL_law_291 : decode cL_law 291 = .ok (.iaload, 1) := by decide +kernel
theorem dL_law_292 : decode cL_law 292 = .ok (.invokevirtual 98, 3) := by decide +kernel
theorem dL_law_295 : decode cL_law 295 = .ok (.istore 6, 2) := by decide +kernel
theorem dL_law_297 : decode cL_law 297 = .ok (.aload_n 2, 1) := by decide +kernel
theorem dL_law_298 : decode cL_law 298 = .ok (.invokevirtual 92, 3) := by decide +kernel
theorem dL_law_301 : decode cL_law 301 = .ok (.iload 5, 2) := by decide +kernel
theorem dL_law_303 : decode cL_law 303 = .ok (.if_icmp .eq 5, 3) := by decide +kernel
theorem dL_law_306 : decode cL_law 306 = .ok (.iconst 0, 1) := by decide +kernel
theorem dL_law_307 : decode cL_law 307 = .ok (.ireturn, 1) := by decide +kernel
theorem dL_law_308 : decode cL_law 308 = .ok (.iload 5, 2) := by decide +kernel
theorem dL_law_310 : decode cL_law 310 = .ok (.ifCond .ne 15, 3) := by decide +kernel
theorem dL_law_313 : decode cL_law 313 = .ok (.aload_n 3, 1) := by decide +kernel
theorem dL_law_314 : decode cL_law 314 = .ok (.iconst 0, 1) := by decide +kernel
theorem dL_law_315 : decode cL_law 315 = .ok (.laload, 1) := by decide +kernel
theorem dL_law_316 : decode cL_law 316 = .ok (.iload 6, 2) := by decide +kernel
theorem dL_law_318 : decode cL_law 318 = .ok (.i2l, 1) := by decide +kernel
theorem dL_law_319 : decode cL_law 319 = .ok (.lcmp, 1) := by decide +kernel
theorem dL_law_320 : decode cL_law 320 = .ok (.ifCond .eq 5, 3) := by decide +kernel
theorem dL_law_323 : decode cL_law 323 = .ok (.iconst 0, 1) := by decide +kernel
theorem dL_law_324 : decode cL_law 324 = .ok (.ireturn, 1) := by decide +kernel
theorem dL_law_325 : decode cL_law 325 = .ok (.goto 1386, 3) := by decide +kernel
theorem dL_law_328 : decode cL_law 328 = .ok (.aload_n 1, 1) := by decide +kernel
theorem dL_law_329 : decode cL_law 329 = .ok (.aload_n 0, 1) := by decide +kernel
theorem dL_law_330 : decode cL_law 330 = .ok (.iload 4, 2) := by decide +kernel
theorem dL_law_332 : decode cL_law 332 = .ok (.iconst 1, 1) := by decide +kernel
theorem dL_law_333 : decode cL_law 333 = .ok (.iadd, 1) := by decide +kernel
theorem dL_law_334 : decode cL_law 334 = .ok (.iaload, 1) := by decide +kernel
theorem dL_law_335 : decode cL_law 335 = .ok (.aload_n 0, 1) := by decide +kernel
theorem dL_law_336 : decode cL_law 336 = .ok (.iload 4, 2) := by decide +kernel
theorem dL_law_338 : decode cL_law 338 = .ok (.iconst 2, 1) := by decide +kernel
theorem dL_law_339 : decode cL_law 339 = .ok (.iadd, 1) := by decide +kernel
theorem dL_law_340 : decode cL_law 340 = .ok (.iaload, 1) := by decide +kernel
theorem dL_law_341 : decode cL_law 341 = .ok (.aload_n 0, 1) := by decide +kernel
theorem dL_law_342 : decode cL_law 342 = .ok (.iload 4, 2) := by decide +kernel
theorem dL_law_344 : decode cL_law 344 = .ok (.iconst 3, 1) := by decide +kernel
theorem dL_law_345 : decode cL_law 345 = .ok (.iadd, 1) := by decide +kernel
theorem dL_law_346 : decode cL_law 346 = .ok (.iaload, 1) := by decide +kernel
theorem dL_law_347 : decode cL_law 347 = .ok (.aload_n 0, 1) := by decide +kernel
theorem dL_law_348 : decode cL_law 348 = .ok (.iload 4, 2) := by decide +kernel
theorem dL_law_350 : decode cL_law 350 = .ok (.iconst 4, 1) := by decide +kernel
theorem dL_law_351 : decode cL_law 351 = .ok (.iadd, 1) := by decide +kernel
theorem dL_law_352 : decode cL_law 352 = .ok (.iaload, 1) := by decide +kernel
theorem dL_law_353 : decode cL_law 353 = .ok (.aload_n 3, 1) := by decide +kernel
theorem dL_law_354 : decode cL_law 354 = .ok (.invokestatic 99, 3) := by decide +kernel
theorem dL_law_357 : decode cL_law 357 = .ok (.istore 5, 2) := by decide +kernel
theorem dL_law_359 : decode cL_law 359 = .ok (.aload_n 2, 1) := by decide +kernel
theorem dL_law_360 : decode cL_law 360 = .ok (.aload_n 0, 1) := by decide +kernel
theorem dL_law_361 : decode cL_law 361 = .ok (.iload 4, 2) := by decide +kernel
theorem dL_law_363 : decode cL_law 363 = .ok (.iconst 1, 1) := by decide +kernel
theorem dL_law_364 : decode cL_law 364 = .ok (.iadd, 1) := by decide +kernel
theorem dL_law_365 : decode cL_law 365 = .ok (.iaload, 1) := by decide +kernel
theorem dL_law_366 : decode cL_law 366 = .ok (.aload_n 0, 1) := by decide +kernel
theorem dL_law_367 : decode cL_law 367 = .ok (.iload 4, 2) := by decide +kernel
theorem dL_law_369 : decode cL_law 369 = .ok (.iconst 2, 1) := by decide +kernel
theorem dL_law_370 : decode cL_law 370 = .ok (.iadd, 1) := by decide +kernel
theorem dL_law_371 : decode cL_law 371 = .ok (.iaload, 1) := by decide +kernel
theorem dL_law_372 : decode cL_law 372 = .ok (.aload_n 0, 1) := by decide +kernel
theorem dL_law_373 : decode cL_law 373 = .ok (.iload 4, 2) := by decide +kernel
theorem dL_law_375 : decode cL_law 375 = .ok (.iconst 3, 1) := by decide +kernel
theorem dL_law_376 : decode cL_law 376 = .ok (.iadd, 1) := by decide +kernel
theorem dL_law_377 : decode cL_law 377 = .ok (.iaload, 1) := by decide +kernel
theorem dL_law_378 : decode cL_law 378 = .ok (.aload_n 0, 1) := by decide +kernel
theorem dL_law_379 : decode cL_law 379 = .ok (.iload 4, 2) := by decide +kernel
theorem dL_law_381 : decode cL_law 381 = .ok (.iconst 4, 1) := by decide +kernel
theorem dL_law_382 : decode cL_law 382 = .ok (.iadd, 1) := by decide +kernel
theorem dL_law_383 : decode cL_law 383 = .ok (.iaload, 1) := by decide +kernel
theorem dL_law_384 : decode cL_law 384 = .ok (.invokevirtual 101, 3) := by decide +kernel
theorem dL_law_387 : decode cL_law 387 = .ok (.istore 6, 2) := by decide +kernel
theorem dL_law_389 : decode cL_law 389 = .ok (.aload_n 2, 1) := by decide +kernel
theorem dL_law_390 : decode cL_law 390 = .ok (.invokevirtual 92, 3) := by decide +kernel
theorem dL_law_393 : decode cL_law 393 = .ok (.iload 5, 2) := by decide +kernel
theorem dL_law_395 : decode cL_law 395 = .ok (.if_icmp .eq 5, 3) := by decide +kernel
theorem dL_law_398 : decode cL_law 398 = .ok (.iconst 0, 1) := by decide +kernel
theorem dL_law_399 : decode cL_law 399 = .ok (.ireturn, 1) := by decide +kernel
theorem dL_law_400 : decode cL_law 400 = .ok (.iload 5, 2) := by decide +kernel
theorem dL_law_402 : decode cL_law 402 = .ok (.ifCond .ne 15, 3) := by decide +kernel
theorem dL_law_405 : decode cL_law 405 = .ok (.aload_n 3, 1) := by decide +kernel
theorem dL_law_406 : decode cL_law 406 = .ok (.iconst 0, 1) := by decide +kernel
theorem dL_law_407 : decode cL_law 407 = .ok (.laload, 1) := by decide +kernel
theorem dL_law_408 : decode cL_law 408 = .ok (.iload 6, 2) := by decide +kernel
theorem dL_law_410 : decode cL_law 410 = .ok (.i2l, 1) := by decide +kernel
theorem dL_law_411 : decode cL_law 411 = .ok (.lcmp, 1) := by decide +kernel
theorem dL_law_412 : decode cL_law 412 = .ok (.ifCond .eq 5, 3) := by decide +kernel
theorem dL_law_415 : decode cL_law 415 = .ok (.iconst 0, 1) := by decide +kernel
theorem dL_law_416 : decode cL_law 416 = .ok (.ireturn, 1) := by decide +kernel
theorem dL_law_417 : decode cL_law 417 = .ok (.goto 1294, 3) := by decide +kernel
theorem dL_law_420 : decode cL_law 420 = .ok (.aload_n 1, 1) := by decide +kernel
theorem dL_law_421 : decode cL_law 421 = .ok (.aload_n 0, 1) := by decide +kernel
theorem dL_law_422 : decode cL_law 422 = .ok (.iload 4, 2) := by decide +kernel
theorem dL_law_424 : decode cL_law 424 = .ok (.iconst 1, 1) := by decide +kernel
theorem dL_law_425 : decode cL_law 425 = .ok (.iadd, 1) := by decide +kernel
theorem dL_law_426 : decode cL_law 426 = .ok (.iaload, 1) := by decide +kernel
theorem dL_law_427 : decode cL_law 427 = .ok (.aload_n 0, 1) := by decide +kernel
theorem dL_law_428 : decode cL_law 428 = .ok (.iload 4, 2) := by decide +kernel
theorem dL_law_430 : decode cL_law 430 = .ok (.iconst 2, 1) := by decide +kernel
theorem dL_law_431 : decode cL_law 431 = .ok (.iadd, 1) := by decide +kernel
theorem dL_law_432 : decode cL_law 432 = .ok (.iaload, 1) := by decide +kernel
theorem dL_law_433 : decode cL_law 433 = .ok (.aload_n 0, 1) := by decide +kernel
theorem dL_law_434 : decode cL_law 434 = .ok (.iload 4, 2) := by decide +kernel
theorem dL_law_436 : decode cL_law 436 = .ok (.iconst 3, 1) := by decide +kernel
theorem dL_law_437 : decode cL_law 437 = .ok (.iadd, 1) := by decide +kernel
theorem dL_law_438 : decode cL_law 438 = .ok (.iaload, 1) := by decide +kernel
theorem dL_law_439 : decode cL_law 439 = .ok (.aload_n 3, 1) := by decide +kernel
theorem dL_law_440 : decode cL_law 440 = .ok (.invokestatic 102, 3) := by decide +kernel
theorem dL_law_443 : decode cL_law 443 = .ok (.istore 5, 2) := by decide +kernel
theorem dL_law_445 : decode cL_law 445 = .ok (.aload_n 2, 1) := by decide +kernel
theorem dL_law_446 : decode cL_law 446 = .ok (.aload_n 0, 1) := by decide +kernel
theorem dL_law_447 : decode cL_law 447 = .ok (.iload 4, 2) := by decide +kernel
theorem dL_law_449 : decode cL_law 449 = .ok (.iconst 1, 1) := by decide +kernel
theorem dL_law_450 : decode cL_law 450 = .ok (.iadd, 1) := by decide +kernel
theorem dL_law_451 : decode cL_law 451 = .ok (.iaload, 1) := by decide +kernel
theorem dL_law_452 : decode cL_law 452 = .ok (.aload_n 0, 1) := by decide +kernel
theorem dL_law_453 : decode cL_law 453 = .ok (.iload 4, 2) := by decide +kernel
theorem dL_law_455 : decode cL_law 455 = .ok (.iconst 2, 1) := by decide +kernel
theorem dL_law_456 : decode cL_law 456 = .ok (.iadd, 1) := by decide +kernel
theorem dL_law_457 : decode cL_law 457 = .ok (.iaload, 1) := by decide +kernel
theorem dL_law_458 : decode cL_law 458 = .ok (.aload_n 0, 1) := by decide +kernel
theorem dL_law_459 : decode cL_law 459 = .ok (.iload 4, 2) := by decide +kernel
theorem dL_law_461 : decode cL_law 461 = .ok (.iconst 3, 1) := by decide +kernel
theorem dL_law_462 : decode cL_law 462 = .ok (.iadd, 1) := by decide +kernel
theorem dL_law_463 : decode cL_law 463 = .ok (.iaload, 1) := by decide +kernel
theorem dL_law_464 : decode cL_law 464 = .ok (.invokevirtual 105, 3) := by decide +kernel
theorem dL_law_467 : decode cL_law 467 = .ok (.istore 6, 2) := by decide +kernel
theorem dL_law_469 : decode cL_law 469 = .ok (.aload_n 2, 1) := by decide +kernel
theorem dL_law_470 : decode cL_law 470 = .ok (.invokevirtual 92, 3) := by decide +kernel
theorem dL_law_473 : decode cL_law 473 = .ok (.iload 5, 2) := by decide +kernel
theorem dL_law_475 : decode cL_law 475 = .ok (.if_icmp .eq 5, 3) := by decide +kernel
theorem dL_law_478 : decode cL_law 478 = .ok (.iconst 0, 1) := by decide +kernel
theorem dL_law_479 : decode cL_law 479 = .ok (.ireturn, 1) := by decide +kernel
theorem dL_law_480 : decode cL_law 480 = .ok (.iload 5, 2) := by decide +kernel
theorem dL_law_482 : decode cL_law 482 = .ok (.ifCond .ne 15, 3) := by decide +kernel
theorem dL_law_485 : decode cL_law 485 = .ok (.aload_n 3, 1) := by decide +kernel
theorem dL_law_486 : decode cL_law 486 = .ok (.iconst 0, 1) := by decide +kernel
theorem dL_law_487 : decode cL_law 487 = .ok (.laload, 1) := by decide +kernel
theorem dL_law_488 : decode cL_law 488 = .ok (.iload 6, 2) := by decide +kernel
theorem dL_law_490 : decode cL_law 490 = .ok (.i2l, 1) := by decide +kernel
theorem dL_law_491 : decode cL_law 491 = .ok (.lcmp, 1) := by decide +kernel
theorem dL_law_492 : decode cL_law 492 = .ok (.ifCond .eq 5, 3) := by decide +kernel
theorem dL_law_495 : decode cL_law 495 = .ok (.iconst 0, 1) := by decide +kernel
theorem dL_law_496 : decode cL_law 496 = .ok (.ireturn, 1) := by decide +kernel
theorem dL_law_497 : decode cL_law 497 = .ok (.goto 1214, 3) := by decide +kernel
theorem dL_law_500 : decode cL_law 500 = .ok (.aload_n 1, 1) := by decide +kernel
theorem dL_law_501 : decode cL_law 501 = .ok (.aload_n 0, 1) := by decide +kernel
theorem dL_law_502 : decode cL_law 502 = .ok (.iload 4, 2) := by decide +kernel
theorem dL_law_504 : decode cL_law 504 = .ok (.iconst 1, 1) := by decide +kernel
theorem dL_law_505 : decode cL_law 505 = .ok (.iadd, 1) := by decide +kernel
theorem dL_law_506 : decode cL_law 506 = .ok (.iaload, 1) := by decide +kernel
theorem dL_law_507 : decode cL_law 507 = .ok (.aload_n 3, 1) := by decide +kernel
theorem dL_law_508 : decode cL_law 508 = .ok (.invokestatic 106, 3) := by decide +kernel
theorem dL_law_511 : decode cL_law 511 = .ok (.istore 5, 2) := by decide +kernel
theorem dL_law_513 : decode cL_law 513 = .ok (.aload_n 2, 1) := by decide +kernel
theorem dL_law_514 : decode cL_law 514 = .ok (.aload_n 0, 1) := by decide +kernel
theorem dL_law_515 : decode cL_law 515 = .ok (.iload 4, 2) := by decide +kernel
theorem dL_law_517 : decode cL_law 517 = .ok (.iconst 1, 1) := by decide +kernel
theorem dL_law_518 : decode cL_law 518 = .ok (.iadd, 1) := by decide +kernel
theorem dL_law_519 : decode cL_law 519 = .ok (.iaload, 1) := by decide +kernel
theorem dL_law_520 : decode cL_law 520 = .ok (.invokevirtual 109, 3) := by decide +kernel
theorem dL_law_523 : decode cL_law 523 = .ok (.istore 6, 2) := by decide +kernel
theorem dL_law_525 : decode cL_law 525 = .ok (.aload_n 2, 1) := by decide +kernel
theorem dL_law_526 : decode cL_law 526 = .ok (.invokevirtual 92, 3) := by decide +kernel
theorem dL_law_529 : decode cL_law 529 = .ok (.iload 5, 2) := by decide +kernel
theorem dL_law_531 : decode cL_law 531 = .ok (.if_icmp .eq 5, 3) := by decide +kernel
theorem dL_law_534 : decode cL_law 534 = .ok (.iconst 0, 1) := by decide +kernel
theorem dL_law_535 : decode cL_law 535 = .ok (.ireturn, 1) := by decide +kernel
theorem dL_law_536 : decode cL_law 536 = .ok (.iload 5, 2) := by decide +kernel
theorem dL_law_538 : decode cL_law 538 = .ok (.ifCond .ne 15, 3) := by decide +kernel
theorem dL_law_541 : decode cL_law 541 = .ok (.aload_n 3, 1) := by decide +kernel
theorem dL_law_542 : decode cL_law 542 = .ok (.iconst 0, 1) := by decide +kernel
theorem dL_law_543 : decode cL_law 543 = .ok (.laload, 1) := by decide +kernel
theorem dL_law_544 : decode cL_law 544 = .ok (.iload 6, 2) := by decide +kernel
theorem dL_law_546 : decode cL_law 546 = .ok (.i2l, 1) := by decide +kernel
theorem dL_law_547 : decode cL_law 547 = .ok (.lcmp, 1) := by decide +kernel
theorem dL_law_548 : decode cL_law 548 = .ok (.ifCond .eq 5, 3) := by decide +kernel
theorem dL_law_551 : decode cL_law 551 = .ok (.iconst 0, 1) := by decide +kernel
theorem dL_law_552 : decode cL_law 552 = .ok (.ireturn, 1) := by decide +kernel
theorem dL_law_553 : decode cL_law 553 = .ok (.goto 1158, 3) := by decide +kernel
theorem dL_law_556 : decode cL_law 556 = .ok (.aload_n 1, 1) := by decide +kernel
theorem dL_law_557 : decode cL_law 557 = .ok (.aload_n 0, 1) := by decide +kernel
theorem dL_law_558 : decode cL_law 558 = .ok (.iload 4, 2) := by decide +kernel
theorem dL_law_560 : decode cL_law 560 = .ok (.iconst 1, 1) := by decide +kernel
theorem dL_law_561 : decode cL_law 561 = .ok (.iadd, 1) := by decide +kernel
theorem dL_law_562 : decode cL_law 562 = .ok (.iaload, 1) := by decide +kernel
theorem dL_law_563 : decode cL_law 563 = .ok (.aload_n 3, 1) := by decide +kernel
theorem dL_law_564 : decode cL_law 564 = .ok (.invokestatic 110, 3) := by decide +kernel
theorem dL_law_567 : decode cL_law 567 = .ok (.istore 5, 2) := by decide +kernel
theorem dL_law_569 : decode cL_law 569 = .ok (.aload_n 2, 1) := by decide +kernel
theorem dL_law_570 : decode cL_law 570 = .ok (.aload_n 0, 1) := by decide +kernel
theorem dL_law_571 : decode cL_law 571 = .ok (.iload 4, 2) := by decide +kernel
theorem dL_law_573 : decode cL_law 573 = .ok (.iconst 1, 1) := by decide +kernel
theorem dL_law_574 : decode cL_law 574 = .ok (.iadd, 1) := by decide +kernel
theorem dL_law_575 : decode cL_law 575 = .ok (.iaload, 1) := by decide +kernel
theorem dL_law_576 : decode cL_law 576 = .ok (.invokevirtual 112, 3) := by decide +kernel
theorem dL_law_579 : decode cL_law 579 = .ok (.istore 6, 2) := by decide +kernel
theorem dL_law_581 : decode cL_law 581 = .ok (.aload_n 2, 1) := by decide +kernel
theorem dL_law_582 : decode cL_law 582 = .ok (.invokevirtual 92, 3) := by decide +kernel
theorem dL_law_585 : decode cL_law 585 = .ok (.iload 5, 2) := by decide +kernel
theorem dL_law_587 : decode cL_law 587 = .ok (.if_icmp .eq 5, 3) := by decide +kernel
theorem dL_law_590 : decode cL_law 590 = .ok (.iconst 0, 1) := by decide +kernel
theorem dL_law_591 : decode cL_law 591 = .ok (.ireturn, 1) := by decide +kernel
theorem dL_law_592 : decode cL_law 592 = .ok (.iload 5, 2) := by decide +kernel
theorem dL_law_594 : decode cL_law 594 = .ok (.ifCond .ne 15, 3) := by decide +kernel
theorem dL_law_597 : decode cL_law 597 = .ok (.aload_n 3, 1) := by decide +kernel
theorem dL_law_598 : decode cL_law 598 = .ok (.iconst 0, 1) := by decide +kernel
theorem dL_law_599 : decode cL_law 599 = .ok (.laload, 1) := by decide +kernel
theorem dL_law_600 : decode cL_law 600 = .ok (.iload 6, 2) := by decide +kernel
theorem dL_law_602 : decode cL_law 602 = .ok (.i2l, 1) := by decide +kernel
theorem dL_law_603 : decode cL_law 603 = .ok (.lcmp, 1) := by decide +kernel
theorem dL_law_604 : decode cL_law 604 = .ok (.ifCond .eq 5, 3) := by decide +kernel
theorem dL_law_607 : decode cL_law 607 = .ok (.iconst 0, 1) := by decide +kernel
theorem dL_law_608 : decode cL_law 608 = .ok (.ireturn, 1) := by decide +kernel
theorem dL_law_609 : decode cL_law 609 = .ok (.goto 1102, 3) := by decide +kernel
theorem dL_law_612 : decode cL_law 612 = .ok (.aload_n 1, 1) := by decide +kernel
theorem dL_law_613 : decode cL_law 613 = .ok (.aload_n 0, 1) := by decide +kernel
theorem dL_law_614 : decode cL_law 614 = .ok (.iload 4, 2) := by decide +kernel
theorem dL_law_616 : decode cL_law 616 = .ok (.iconst 1, 1) := by decide +kernel
theorem dL_law_617 : decode cL_law 617 = .ok (.iadd, 1) := by decide +kernel
theorem dL_law_618 : decode cL_law 618 = .ok (.iaload, 1) := by decide +kernel
theorem dL_law_619 : decode cL_law 619 = .ok (.aload_n 3, 1) := by decide +kernel
theorem dL_law_620 : decode cL_law 620 = .ok (.invokestatic 113, 3) := by decide +kernel
theorem dL_law_623 : decode cL_law 623 = .ok (.istore 5, 2) := by decide +kernel
theorem dL_law_625 : decode cL_law 625 = .ok (.aload_n 2, 1) := by decide +kernel
theorem dL_law_626 : decode cL_law 626 = .ok (.aload_n 0, 1) := by decide +kernel
theorem dL_law_627 : decode cL_law 627 = .ok (.iload 4, 2) := by decide +kernel
theorem dL_law_629 : decode cL_law 629 = .ok (.iconst 1, 1) := by decide +kernel
theorem dL_law_630 : decode cL_law 630 = .ok (.iadd, 1) := by decide +kernel
theorem dL_law_631 : decode cL_law 631 = .ok (.iaload, 1) := by decide +kernel
theorem dL_law_632 : decode cL_law 632 = .ok (.invokevirtual 115, 3) := by decide +kernel
theorem dL_law_635 : decode cL_law 635 = .ok (.istore 6, 2) := by decide +kernel
theorem dL_law_637 : decode cL_law 637 = .ok (.aload_n 2, 1) := by decide +kernel
theorem dL_law_638 : decode cL_law 638 = .ok (.invokevirtual 92, 3) := by decide +kernel
theorem dL_law_641 : decode cL_law 641 = .ok (.iload 5, 2) := by decide +kernel
theorem dL_law_643 : decode cL_law 643 = .ok (.if_icmp .eq 5, 3) := by decide +kernel
theorem dL_law_646 : decode cL_law 646 = .ok (.iconst 0, 1) := by decide +kernel
theorem dL_law_647 : decode cL_law 647 = .ok (.ireturn, 1) := by decide +kernel
theorem dL_law_648 : decode cL_law 648 = .ok (.iload 5, 2) := by decide +kernel
theorem dL_law_650 : decode cL_law 650 = .ok (.ifCond .ne 15, 3) := by decide +kernel
theorem dL_law_653 : decode cL_law 653 = .ok (.aload_n 3, 1) := by decide +kernel
theorem dL_law_654 : decode cL_law 654 = .ok (.iconst 0, 1) := by decide +kernel
theorem dL_law_655 : decode cL_law 655 = .ok (.laload, 1) := by decide +kernel
theorem dL_law_656 : decode cL_law 656 = .ok (.iload 6, 2) := by decide +kernel
theorem dL_law_658 : decode cL_law 658 = .ok (.i2l, 1) := by decide +kernel
theorem dL_law_659 : decode cL_law 659 = .ok (.lcmp, 1) := by decide +kernel
theorem dL_law_660 : decode cL_law 660 = .ok (.ifCond .eq 5, 3) := by decide +kernel
theorem dL_law_663 : decode cL_law 663 = .ok (.iconst 0, 1) := by decide +kernel
theorem dL_law_664 : decode cL_law 664 = .ok (.ireturn, 1) := by decide +kernel
theorem dL_law_665 : decode cL_law 665 = .ok (.goto 1046, 3) := by decide +kernel
theorem dL_law_668 : decode cL_law 668 = .ok (.aload_n 1, 1) := by decide +kernel
theorem dL_law_669 : decode cL_law 669 = .ok (.aload_n 0, 1) := by decide +kernel
theorem dL_law_670 : decode cL_law 670 = .ok (.iload 4, 2) := by decide +kernel
theorem dL_law_672 : decode cL_law 672 = .ok (.iconst 1, 1) := by decide +kernel
theorem dL_law_673 : decode cL_law 673 = .ok (.iadd, 1) := by decide +kernel
theorem dL_law_674 : decode cL_law 674 = .ok (.iaload, 1) := by decide +kernel
theorem dL_law_675 : decode cL_law 675 = .ok (.aload_n 3, 1) := by decide +kernel
theorem dL_law_676 : decode cL_law 676 = .ok (.invokestatic 116, 3) := by decide +kernel
theorem dL_law_679 : decode cL_law 679 = .ok (.istore 5, 2) := by decide +kernel
theorem dL_law_681 : decode cL_law 681 = .ok (.aload_n 2, 1) := by decide +kernel
theorem dL_law_682 : decode cL_law 682 = .ok (.aload_n 0, 1) := by decide +kernel
theorem dL_law_683 : decode cL_law 683 = .ok (.iload 4, 2) := by decide +kernel
theorem dL_law_685 : decode cL_law 685 = .ok (.iconst 1, 1) := by decide +kernel
theorem dL_law_686 : decode cL_law 686 = .ok (.iadd, 1) := by decide +kernel
theorem dL_law_687 : decode cL_law 687 = .ok (.iaload, 1) := by decide +kernel
theorem dL_law_688 : decode cL_law 688 = .ok (.invokevirtual 118, 3) := by decide +kernel
theorem dL_law_691 : decode cL_law 691 = .ok (.istore 6, 2) := by decide +kernel
theorem dL_law_693 : decode cL_law 693 = .ok (.aload_n 2, 1) := by decide +kernel
theorem dL_law_694 : decode cL_law 694 = .ok (.invokevirtual 92, 3) := by decide +kernel
theorem dL_law_697 : decode cL_law 697 = .ok (.iload 5, 2) := by decide +kernel
theorem dL_law_699 : decode cL_law 699 = .ok (.if_icmp .eq 5, 3) := by decide +kernel
theorem dL_law_702 : decode cL_law 702 = .ok (.iconst 0, 1) := by decide +kernel
theorem dL_law_703 : decode cL_law 703 = .ok (.ireturn, 1) := by decide +kernel
theorem dL_law_704 : decode cL_law 704 = .ok (.iload 5, 2) := by decide +kernel
theorem dL_law_706 : decode cL_law 706 = .ok (.ifCond .ne 15, 3) := by decide +kernel
theorem dL_law_709 : decode cL_law 709 = .ok (.aload_n 3, 1) := by decide +kernel
theorem dL_law_710 : decode cL_law 710 = .ok (.iconst 0, 1) := by decide +kernel
theorem dL_law_711 : decode cL_law 711 = .ok (.laload, 1) := by decide +kernel
theorem dL_law_712 : decode cL_law 712 = .ok (.iload 6, 2) := by decide +kernel
theorem dL_law_714 : decode cL_law 714 = .ok (.i2l, 1) := by decide +kernel
theorem dL_law_715 : decode cL_law 715 = .ok (.lcmp, 1) := by decide +kernel
theorem dL_law_716 : decode cL_law 716 = .ok (.ifCond .eq 5, 3) := by decide +kernel
theorem dL_law_719 : decode cL_law 719 = .ok (.iconst 0, 1) := by decide +kernel
theorem dL_law_720 : decode cL_law 720 = .ok (.ireturn, 1) := by decide +kernel
theorem dL_law_721 : decode cL_law 721 = .ok (.goto 990, 3) := by decide +kernel
theorem dL_law_724 : decode cL_law 724 = .ok (.aload_n 1, 1) := by decide +kernel
theorem dL_law_725 : decode cL_law 725 = .ok (.aload_n 0, 1) := by decide +kernel
theorem dL_law_726 : decode cL_law 726 = .ok (.iload 4, 2) := by decide +kernel
theorem dL_law_728 : decode cL_law 728 = .ok (.iconst 1, 1) := by decide +kernel
theorem dL_law_729 : decode cL_law 729 = .ok (.iadd, 1) := by decide +kernel
theorem dL_law_730 : decode cL_law 730 = .ok (.iaload, 1) := by decide +kernel
theorem dL_law_731 : decode cL_law 731 = .ok (.aload_n 0, 1) := by decide +kernel
theorem dL_law_732 : decode cL_law 732 = .ok (.iload 4, 2) := by decide +kernel
theorem dL_law_734 : decode cL_law 734 = .ok (.iconst 2, 1) := by decide +kernel
theorem dL_law_735 : decode cL_law 735 = .ok (.iadd, 1) := by decide +kernel
theorem dL_law_736 : decode cL_law 736 = .ok (.iaload, 1) := by decide +kernel
theorem dL_law_737 : decode cL_law 737 = .ok (.aload_n 3, 1) := by decide +kernel
theorem dL_law_738 : decode cL_law 738 = .ok (.invokestatic 119, 3) := by decide +kernel
theorem dL_law_741 : decode cL_law 741 = .ok (.istore 5, 2) := by decide +kernel
theorem dL_law_743 : decode cL_law 743 = .ok (.aload_n 2, 1) := by decide +kernel
theorem dL_law_744 : decode cL_law 744 = .ok (.aload_n 0, 1) := by decide +kernel
theorem dL_law_745 : decode cL_law 745 = .ok (.iload 4, 2) := by decide +kernel
theorem dL_law_747 : decode cL_law 747 = .ok (.iconst 1, 1) := by decide +kernel
theorem dL_law_748 : decode cL_law 748 = .ok (.iadd, 1) := by decide +kernel
theorem dL_law_749 : decode cL_law 749 = .ok (.iaload, 1) := by decide +kernel
theorem dL_law_750 : decode cL_law 750 = .ok (.aload_n 0, 1) := by decide +kernel
theorem dL_law_751 : decode cL_law 751 = .ok (.iload 4, 2) := by decide +kernel
theorem dL_law_753 : decode cL_law 753 = .ok (.iconst 2, 1) := by decide +kernel
theorem dL_law_754 : decode cL_law 754 = .ok (.iadd, 1) := by decide +kernel
theorem dL_law_755 : decode cL_law 755 = .ok (.iaload, 1) := by decide +kernel
theorem dL_law_756 : decode cL_law 756 = .ok (.invokevirtual 122, 3) := by decide +kernel
theorem dL_law_759 : decode cL_law 759 = .ok (.istore 6, 2) := by decide +kernel
theorem dL_law_761 : decode cL_law 761 = .ok (.aload_n 2, 1) := by decide +kernel
theorem dL_law_762 : decode cL_law 762 = .ok (.invokevirtual 92, 3) := by decide +kernel
theorem dL_law_765 : decode cL_law 765 = .ok (.iload 5, 2) := by decide +kernel
theorem dL_law_767 : decode cL_law 767 = .ok (.if_icmp .eq 5, 3) := by decide +kernel
theorem dL_law_770 : decode cL_law 770 = .ok (.iconst 0, 1) := by decide +kernel
theorem dL_law_771 : decode cL_law 771 = .ok (.ireturn, 1) := by decide +kernel
theorem dL_law_772 : decode cL_law 772 = .ok (.iload 5, 2) := by decide +kernel
theorem dL_law_774 : decode cL_law 774 = .ok (.ifCond .ne 15, 3) := by decide +kernel
theorem dL_law_777 : decode cL_law 777 = .ok (.aload_n 3, 1) := by decide +kernel
theorem dL_law_778 : decode cL_law 778 = .ok (.iconst 0, 1) := by decide +kernel
theorem dL_law_779 : decode cL_law 779 = .ok (.laload, 1) := by decide +kernel
theorem dL_law_780 : decode cL_law 780 = .ok (.iload 6, 2) := by decide +kernel
theorem dL_law_782 : decode cL_law 782 = .ok (.i2l, 1) := by decide +kernel
theorem dL_law_783 : decode cL_law 783 = .ok (.lcmp, 1) := by decide +kernel
theorem dL_law_784 : decode cL_law 784 = .ok (.ifCond .eq 5, 3) := by decide +kernel
theorem dL_law_787 : decode cL_law 787 = .ok (.iconst 0, 1) := by decide +kernel
theorem dL_law_788 : decode cL_law 788 = .ok (.ireturn, 1) := by decide +kernel
theorem dL_law_789 : decode cL_law 789 = .ok (.goto 922, 3) := by decide +kernel
theorem dL_law_792 : decode cL_law 792 = .ok (.aload_n 1, 1) := by decide +kernel
theorem dL_law_793 : decode cL_law 793 = .ok (.aload_n 0, 1) := by decide +kernel
theorem dL_law_794 : decode cL_law 794 = .ok (.iload 4, 2) := by decide +kernel
theorem dL_law_796 : decode cL_law 796 = .ok (.iconst 1, 1) := by decide +kernel
theorem dL_law_797 : decode cL_law 797 = .ok (.iadd, 1) := by decide +kernel
theorem dL_law_798 : decode cL_law 798 = .ok (.iaload, 1) := by decide +kernel
theorem dL_law_799 : decode cL_law 799 = .ok (.aload_n 0, 1) := by decide +kernel
theorem dL_law_800 : decode cL_law 800 = .ok (.iload 4, 2) := by decide +kernel
theorem dL_law_802 : decode cL_law 802 = .ok (.iconst 2, 1) := by decide +kernel
theorem dL_law_803 : decode cL_law 803 = .ok (.iadd, 1) := by decide +kernel
theorem dL_law_804 : decode cL_law 804 = .ok (.iaload, 1) := by decide +kernel
theorem dL_law_805 : decode cL_law 805 = .ok (.aload_n 0, 1) := by decide +kernel
theorem dL_law_806 : decode cL_law 806 = .ok (.iload 4, 2) := by decide +kernel
theorem dL_law_808 : decode cL_law 808 = .ok (.iconst 3, 1) := by decide +kernel
theorem dL_law_809 : decode cL_law 809 = .ok (.iadd, 1) := by decide +kernel
theorem dL_law_810 : decode cL_law 810 = .ok (.iaload, 1) := by decide +kernel
theorem dL_law_811 : decode cL_law 811 = .ok (.aload_n 3, 1) := by decide +kernel
theorem dL_law_812 : decode cL_law 812 = .ok (.invokestatic 123, 3) := by decide +kernel
theorem dL_law_815 : decode cL_law 815 = .ok (.istore 5, 2) := by decide +kernel
theorem dL_law_817 : decode cL_law 817 = .ok (.aload_n 2, 1) := by decide +kernel
theorem dL_law_818 : decode cL_law 818 = .ok (.aload_n 0, 1) := by decide +kernel
theorem dL_law_819 : decode cL_law 819 = .ok (.iload 4, 2) := by decide +kernel
theorem dL_law_821 : decode cL_law 821 = .ok (.iconst 1, 1) := by decide +kernel
theorem dL_law_822 : decode cL_law 822 = .ok (.iadd, 1) := by decide +kernel
theorem dL_law_823 : decode cL_law 823 = .ok (.iaload, 1) := by decide +kernel
theorem dL_law_824 : decode cL_law 824 = .ok (.aload_n 0, 1) := by decide +kernel
theorem dL_law_825 : decode cL_law 825 = .ok (.iload 4, 2) := by decide +kernel
theorem dL_law_827 : decode cL_law 827 = .ok (.iconst 2, 1) := by decide +kernel
theorem dL_law_828 : decode cL_law 828 = .ok (.iadd, 1) := by decide +kernel
theorem dL_law_829 : decode cL_law 829 = .ok (.iaload, 1) := by decide +kernel
theorem dL_law_830 : decode cL_law 830 = .ok (.aload_n 0, 1) := by decide +kernel
theorem dL_law_831 : decode cL_law 831 = .ok (.iload 4, 2) := by decide +kernel
theorem dL_law_833 : decode cL_law 833 = .ok (.iconst 3, 1) := by decide +kernel
theorem dL_law_834 : decode cL_law 834 = .ok (.iadd, 1) := by decide +kernel
theorem dL_law_835 : decode cL_law 835 = .ok (.iaload, 1) := by decide +kernel
theorem dL_law_836 : decode cL_law 836 = .ok (.invokevirtual 125, 3) := by decide +kernel
theorem dL_law_839 : decode cL_law 839 = .ok (.istore 6, 2) := by decide +kernel
theorem dL_law_841 : decode cL_law 841 = .ok (.aload_n 2, 1) := by decide +kernel
theorem dL_law_842 : decode cL_law 842 = .ok (.invokevirtual 92, 3) := by decide +kernel
theorem dL_law_845 : decode cL_law 845 = .ok (.iload 5, 2) := by decide +kernel
theorem dL_law_847 : decode cL_law 847 = .ok (.if_icmp .eq 5, 3) := by decide +kernel
theorem dL_law_850 : decode cL_law 850 = .ok (.iconst 0, 1) := by decide +kernel
theorem dL_law_851 : decode cL_law 851 = .ok (.ireturn, 1) := by decide +kernel
theorem dL_law_852 : decode cL_law 852 = .ok (.iload 5, 2) := by decide +kernel
theorem dL_law_854 : decode cL_law 854 = .ok (.ifCond .ne 15, 3) := by decide +kernel
theorem dL_law_857 : decode cL_law 857 = .ok (.aload_n 3, 1) := by decide +kernel
theorem dL_law_858 : decode cL_law 858 = .ok (.iconst 0, 1) := by decide +kernel
theorem dL_law_859 : decode cL_law 859 = .ok (.laload, 1) := by decide +kernel
theorem dL_law_860 : decode cL_law 860 = .ok (.iload 6, 2) := by decide +kernel
theorem dL_law_862 : decode cL_law 862 = .ok (.i2l, 1) := by decide +kernel
theorem dL_law_863 : decode cL_law 863 = .ok (.lcmp, 1) := by decide +kernel
theorem dL_law_864 : decode cL_law 864 = .ok (.ifCond .eq 5, 3) := by decide +kernel
theorem dL_law_867 : decode cL_law 867 = .ok (.iconst 0, 1) := by decide +kernel
theorem dL_law_868 : decode cL_law 868 = .ok (.ireturn, 1) := by decide +kernel
theorem dL_law_869 : decode cL_law 869 = .ok (.goto 842, 3) := by decide +kernel
theorem dL_law_872 : decode cL_law 872 = .ok (.aload_n 1, 1) := by decide +kernel
theorem dL_law_873 : decode cL_law 873 = .ok (.aload_n 0, 1) := by decide +kernel
theorem dL_law_874 : decode cL_law 874 = .ok (.iload 4, 2) := by decide +kernel
theorem dL_law_876 : decode cL_law 876 = .ok (.iconst 1, 1) := by decide +kernel
theorem dL_law_877 : decode cL_law 877 = .ok (.iadd, 1) := by decide +kernel
theorem dL_law_878 : decode cL_law 878 = .ok (.iaload, 1) := by decide +kernel
theorem dL_law_879 : decode cL_law 879 = .ok (.aload_n 0, 1) := by decide +kernel
theorem dL_law_880 : decode cL_law 880 = .ok (.iload 4, 2) := by decide +kernel
theorem dL_law_882 : decode cL_law 882 = .ok (.iconst 2, 1) := by decide +kernel
theorem dL_law_883 : decode cL_law 883 = .ok (.iadd, 1) := by decide +kernel
theorem dL_law_884 : decode cL_law 884 = .ok (.iaload, 1) := by decide +kernel
theorem dL_law_885 : decode cL_law 885 = .ok (.aload_n 0, 1) := by decide +kernel
theorem dL_law_886 : decode cL_law 886 = .ok (.iload 4, 2) := by decide +kernel
theorem dL_law_888 : decode cL_law 888 = .ok (.iconst 3, 1) := by decide +kernel
theorem dL_law_889 : decode cL_law 889 = .ok (.iadd, 1) := by decide +kernel
theorem dL_law_890 : decode cL_law 890 = .ok (.iaload, 1) := by decide +kernel
theorem dL_law_891 : decode cL_law 891 = .ok (.aload_n 0, 1) := by decide +kernel
theorem dL_law_892 : decode cL_law 892 = .ok (.iload 4, 2) := by decide +kernel
theorem dL_law_894 : decode cL_law 894 = .ok (.iconst 4, 1) := by decide +kernel
theorem dL_law_895 : decode cL_law 895 = .ok (.iadd, 1) := by decide +kernel
theorem dL_law_896 : decode cL_law 896 = .ok (.iaload, 1) := by decide +kernel
theorem dL_law_897 : decode cL_law 897 = .ok (.aload_n 3, 1) := by decide +kernel
theorem dL_law_898 : decode cL_law 898 = .ok (.invokestatic 126, 3) := by decide +kernel
theorem dL_law_901 : decode cL_law 901 = .ok (.istore 5, 2) := by decide +kernel
theorem dL_law_903 : decode cL_law 903 = .ok (.aload_n 2, 1) := by decide +kernel
theorem dL_law_904 : decode cL_law 904 = .ok (.aload_n 0, 1) := by decide +kernel
theorem dL_law_905 : decode cL_law 905 = .ok (.iload 4, 2) := by decide +kernel
theorem dL_law_907 : decode cL_law 907 = .ok (.iconst 1, 1) := by decide +kernel
theorem dL_law_908 : decode cL_law 908 = .ok (.iadd, 1) := by decide +kernel
theorem dL_law_909 : decode cL_law 909 = .ok (.iaload, 1) := by decide +kernel
theorem dL_law_910 : decode cL_law 910 = .ok (.aload_n 0, 1) := by decide +kernel
theorem dL_law_911 : decode cL_law 911 = .ok (.iload 4, 2) := by decide +kernel
theorem dL_law_913 : decode cL_law 913 = .ok (.iconst 2, 1) := by decide +kernel
theorem dL_law_914 : decode cL_law 914 = .ok (.iadd, 1) := by decide +kernel
theorem dL_law_915 : decode cL_law 915 = .ok (.iaload, 1) := by decide +kernel
theorem dL_law_916 : decode cL_law 916 = .ok (.aload_n 0, 1) := by decide +kernel
theorem dL_law_917 : decode cL_law 917 = .ok (.iload 4, 2) := by decide +kernel
theorem dL_law_919 : decode cL_law 919 = .ok (.iconst 3, 1) := by decide +kernel
theorem dL_law_920 : decode cL_law 920 = .ok (.iadd, 1) := by decide +kernel
theorem dL_law_921 : decode cL_law 921 = .ok (.iaload, 1) := by decide +kernel
theorem dL_law_922 : decode cL_law 922 = .ok (.aload_n 0, 1) := by decide +kernel
theorem dL_law_923 : decode cL_law 923 = .ok (.iload 4, 2) := by decide +kernel
theorem dL_law_925 : decode cL_law 925 = .ok (.iconst 4, 1) := by decide +kernel
theorem dL_law_926 : decode cL_law 926 = .ok (.iadd, 1) := by decide +kernel
theorem dL_law_927 : decode cL_law 927 = .ok (.iaload, 1) := by decide +kernel
theorem dL_law_928 : decode cL_law 928 = .ok (.invokevirtual 128, 3) := by decide +kernel
theorem dL_law_931 : decode cL_law 931 = .ok (.istore 6, 2) := by decide +kernel
theorem dL_law_933 : decode cL_law 933 = .ok (.aload_n 2, 1) := by decide +kernel
theorem dL_law_934 : decode cL_law 934 = .ok (.invokevirtual 92, 3) := by decide +kernel
theorem dL_law_937 : decode cL_law 937 = .ok (.iload 5, 2) := by decide +kernel
theorem dL_law_939 : decode cL_law 939 = .ok (.if_icmp .eq 5, 3) := by decide +kernel
theorem dL_law_942 : decode cL_law 942 = .ok (.iconst 0, 1) := by decide +kernel
theorem dL_law_943 : decode cL_law 943 = .ok (.ireturn, 1) := by decide +kernel
theorem dL_law_944 : decode cL_law 944 = .ok (.iload 5, 2) := by decide +kernel
theorem dL_law_946 : decode cL_law 946 = .ok (.ifCond .ne 15, 3) := by decide +kernel
theorem dL_law_949 : decode cL_law 949 = .ok (.aload_n 3, 1) := by decide +kernel
theorem dL_law_950 : decode cL_law 950 = .ok (.iconst 0, 1) := by decide +kernel
theorem dL_law_951 : decode cL_law 951 = .ok (.laload, 1) := by decide +kernel
theorem dL_law_952 : decode cL_law 952 = .ok (.iload 6, 2) := by decide +kernel
theorem dL_law_954 : decode cL_law 954 = .ok (.i2l, 1) := by decide +kernel
theorem dL_law_955 : decode cL_law 955 = .ok (.lcmp, 1) := by decide +kernel
theorem dL_law_956 : decode cL_law 956 = .ok (.ifCond .eq 5, 3) := by decide +kernel
theorem dL_law_959 : decode cL_law 959 = .ok (.iconst 0, 1) := by decide +kernel
theorem dL_law_960 : decode cL_law 960 = .ok (.ireturn, 1) := by decide +kernel
theorem dL_law_961 : decode cL_law 961 = .ok (.goto 750, 3) := by decide +kernel
theorem dL_law_964 : decode cL_law 964 = .ok (.aload_n 1, 1) := by decide +kernel
theorem dL_law_965 : decode cL_law 965 = .ok (.aload_n 0, 1) := by decide +kernel
theorem dL_law_966 : decode cL_law 966 = .ok (.iload 4, 2) := by decide +kernel
theorem dL_law_968 : decode cL_law 968 = .ok (.iconst 1, 1) := by decide +kernel
theorem dL_law_969 : decode cL_law 969 = .ok (.iadd, 1) := by decide +kernel
theorem dL_law_970 : decode cL_law 970 = .ok (.iaload, 1) := by decide +kernel
theorem dL_law_971 : decode cL_law 971 = .ok (.aload_n 0, 1) := by decide +kernel
theorem dL_law_972 : decode cL_law 972 = .ok (.iload 4, 2) := by decide +kernel
theorem dL_law_974 : decode cL_law 974 = .ok (.iconst 2, 1) := by decide +kernel
theorem dL_law_975 : decode cL_law 975 = .ok (.iadd, 1) := by decide +kernel
theorem dL_law_976 : decode cL_law 976 = .ok (.iaload, 1) := by decide +kernel
theorem dL_law_977 : decode cL_law 977 = .ok (.aload_n 3, 1) := by decide +kernel
theorem dL_law_978 : decode cL_law 978 = .ok (.invokestatic 129, 3) := by decide +kernel
theorem dL_law_981 : decode cL_law 981 = .ok (.istore 5, 2) := by decide +kernel
theorem dL_law_983 : decode cL_law 983 = .ok (.aload_n 2, 1) := by decide +kernel
theorem dL_law_984 : decode cL_law 984 = .ok (.aload_n 0, 1) := by decide +kernel
theorem dL_law_985 : decode cL_law 985 = .ok (.iload 4, 2) := by decide +kernel
theorem dL_law_987 : decode cL_law 987 = .ok (.iconst 1, 1) := by decide +kernel
theorem dL_law_988 : decode cL_law 988 = .ok (.iadd, 1) := by decide +kernel
theorem dL_law_989 : decode cL_law 989 = .ok (.iaload, 1) := by decide +kernel
theorem dL_law_990 : decode cL_law 990 = .ok (.aload_n 0, 1) := by decide +kernel
theorem dL_law_991 : decode cL_law 991 = .ok (.iload 4, 2) := by decide +kernel
theorem dL_law_993 : decode cL_law 993 = .ok (.iconst 2, 1) := by decide +kernel
theorem dL_law_994 : decode cL_law 994 = .ok (.iadd, 1) := by decide +kernel
theorem dL_law_995 : decode cL_law 995 = .ok (.iaload, 1) := by decide +kernel
theorem dL_law_996 : decode cL_law 996 = .ok (.invokevirtual 131, 3) := by decide +kernel
theorem dL_law_999 : decode cL_law 999 = .ok (.istore 6, 2) := by decide +kernel
theorem dL_law_1001 : decode cL_law 1001 = .ok (.aload_n 2, 1) := by decide +kernel
theorem dL_law_1002 : decode cL_law 1002 = .ok (.invokevirtual 92, 3) := by decide +kernel
theorem dL_law_1005 : decode cL_law 1005 = .ok (.iload 5, 2) := by decide +kernel
theorem dL_law_1007 : decode cL_law 1007 = .ok (.if_icmp .eq 5, 3) := by decide +kernel
theorem dL_law_1010 : decode cL_law 1010 = .ok (.iconst 0, 1) := by decide +kernel
theorem dL_law_1011 : decode cL_law 1011 = .ok (.ireturn, 1) := by decide +kernel
theorem dL_law_1012 : decode cL_law 1012 = .ok (.iload 5, 2) := by decide +kernel
theorem dL_law_1014 : decode cL_law 1014 = .ok (.ifCond .ne 15, 3) := by decide +kernel
theorem dL_law_1017 : decode cL_law 1017 = .ok (.aload_n 3, 1) := by decide +kernel
theorem dL_law_1018 : decode cL_law 1018 = .ok (.iconst 0, 1) := by decide +kernel
theorem dL_law_1019 : decode cL_law 1019 = .ok (.laload, 1) := by decide +kernel
theorem dL_law_1020 : decode cL_law 1020 = .ok (.iload 6, 2) := by decide +kernel
theorem dL_law_1022 : decode cL_law 1022 = .ok (.i2l, 1) := by decide +kernel
theorem dL_law_1023 : decode cL_law 1023 = .ok (.lcmp, 1) := by decide +kernel
theorem dL_law_1024 : decode cL_law 1024 = .ok (.ifCond .eq 5, 3) := by decide +kernel
theorem dL_law_1027 : decode cL_law 1027 = .ok (.iconst 0, 1) := by decide +kernel
theorem dL_law_1028 : decode cL_law 1028 = .ok (.ireturn, 1) := by decide +kernel
theorem dL_law_1029 : decode cL_law 1029 = .ok (.goto 682, 3) := by decide +kernel
theorem dL_law_1032 : decode cL_law 1032 = .ok (.aload_n 1, 1) := by decide +kernel
theorem dL_law_1033 : decode cL_law 1033 = .ok (.aload_n 0, 1) := by decide +kernel
theorem dL_law_1034 : decode cL_law 1034 = .ok (.iload 4, 2) := by decide +kernel
theorem dL_law_1036 : decode cL_law 1036 = .ok (.iconst 1, 1) := by decide +kernel
theorem dL_law_1037 : decode cL_law 1037 = .ok (.iadd, 1) := by decide +kernel
theorem dL_law_1038 : decode cL_law 1038 = .ok (.iaload, 1) := by decide +kernel
theorem dL_law_1039 : decode cL_law 1039 = .ok (.aload_n 0, 1) := by decide +kernel
theorem dL_law_1040 : decode cL_law 1040 = .ok (.iload 4, 2) := by decide +kernel
theorem dL_law_1042 : decode cL_law 1042 = .ok (.iconst 2, 1) := by decide +kernel
theorem dL_law_1043 : decode cL_law 1043 = .ok (.iadd, 1) := by decide +kernel
theorem dL_law_1044 : decode cL_law 1044 = .ok (.iaload, 1) := by decide +kernel
theorem dL_law_1045 : decode cL_law 1045 = .ok (.aload_n 3, 1) := by decide +kernel
theorem dL_law_1046 : decode cL_law 1046 = .ok (.invokestatic 132, 3) := by decide +kernel
theorem dL_law_1049 : decode cL_law 1049 = .ok (.istore 5, 2) := by decide +kernel
theorem dL_law_1051 : decode cL_law 1051 = .ok (.aload_n 2, 1) := by decide +kernel
theorem dL_law_1052 : decode cL_law 1052 = .ok (.aload_n 0, 1) := by decide +kernel
theorem dL_law_1053 : decode cL_law 1053 = .ok (.iload 4, 2) := by decide +kernel
theorem dL_law_1055 : decode cL_law 1055 = .ok (.iconst 1, 1) := by decide +kernel
theorem dL_law_1056 : decode cL_law 1056 = .ok (.iadd, 1) := by decide +kernel
theorem dL_law_1057 : decode cL_law 1057 = .ok (.iaload, 1) := by decide +kernel
theorem dL_law_1058 : decode cL_law 1058 = .ok (.aload_n 0, 1) := by decide +kernel
theorem dL_law_1059 : decode cL_law 1059 = .ok (.iload 4, 2) := by decide +kernel
theorem dL_law_1061 : decode cL_law 1061 = .ok (.iconst 2, 1) := by decide +kernel
theorem dL_law_1062 : decode cL_law 1062 = .ok (.iadd, 1) := by decide +kernel
theorem dL_law_1063 : decode cL_law 1063 = .ok (.iaload, 1) := by decide +kernel
theorem dL_law_1064 : decode cL_law 1064 = .ok (.invokevirtual 134, 3) := by decide +kernel
theorem dL_law_1067 : decode cL_law 1067 = .ok (.istore 6, 2) := by decide +kernel
theorem dL_law_1069 : decode cL_law 1069 = .ok (.aload_n 2, 1) := by decide +kernel
theorem dL_law_1070 : decode cL_law 1070 = .ok (.invokevirtual 92, 3) := by decide +kernel
theorem dL_law_1073 : decode cL_law 1073 = .ok (.iload 5, 2) := by decide +kernel
theorem dL_law_1075 : decode cL_law 1075 = .ok (.if_icmp .eq 5, 3) := by decide +kernel
theorem dL_law_1078 : decode cL_law 1078 = .ok (.iconst 0, 1) := by decide +kernel
theorem dL_law_1079 : decode cL_law 1079 = .ok (.ireturn, 1) := by decide +kernel
theorem dL_law_1080 : decode cL_law 1080 = .ok (.iload 5, 2) := by decide +kernel
theorem dL_law_1082 : decode cL_law 1082 = .ok (.ifCond .ne 15, 3) := by decide +kernel
theorem dL_law_1085 : decode cL_law 1085 = .ok (.aload_n 3, 1) := by decide +kernel
theorem dL_law_1086 : decode cL_law 1086 = .ok (.iconst 0, 1) := by decide +kernel
theorem dL_law_1087 : decode cL_law 1087 = .ok (.laload, 1) := by decide +kernel
theorem dL_law_1088 : decode cL_law 1088 = .ok (.iload 6, 2) := by decide +kernel
theorem dL_law_1090 : decode cL_law 1090 = .ok (.i2l, 1) := by decide +kernel
theorem dL_law_1091 : decode cL_law 1091 = .ok (.lcmp, 1) := by decide +kernel
theorem dL_law_1092 : decode cL_law 1092 = .ok (.ifCond .eq 5, 3) := by decide +kernel
theorem dL_law_1095 : decode cL_law 1095 = .ok (.iconst 0, 1) := by decide +kernel
theorem dL_law_1096 : decode cL_law 1096 = .ok (.ireturn, 1) := by decide +kernel
theorem dL_law_1097 : decode cL_law 1097 = .ok (.goto 614, 3) := by decide +kernel
theorem dL_law_1100 : decode cL_law 1100 = .ok (.aload_n 1, 1) := by decide +kernel
theorem dL_law_1101 : decode cL_law 1101 = .ok (.aload_n 0, 1) := by decide +kernel
theorem dL_law_1102 : decode cL_law 1102 = .ok (.iload 4, 2) := by decide +kernel
theorem dL_law_1104 : decode cL_law 1104 = .ok (.iconst 1, 1) := by decide +kernel
theorem dL_law_1105 : decode cL_law 1105 = .ok (.iadd, 1) := by decide +kernel
theorem dL_law_1106 : decode cL_law 1106 = .ok (.iaload, 1) := by decide +kernel
theorem dL_law_1107 : decode cL_law 1107 = .ok (.aload_n 0, 1) := by decide +kernel
theorem dL_law_1108 : decode cL_law 1108 = .ok (.iload 4, 2) := by decide +kernel
theorem dL_law_1110 : decode cL_law 1110 = .ok (.iconst 2, 1) := by decide +kernel
theorem dL_law_1111 : decode cL_law 1111 = .ok (.iadd, 1) := by decide +kernel
theorem dL_law_1112 : decode cL_law 1112 = .ok (.iaload, 1) := by decide +kernel
theorem dL_law_1113 : decode cL_law 1113 = .ok (.aload_n 3, 1) := by decide +kernel
theorem dL_law_1114 : decode cL_law 1114 = .ok (.invokestatic 135, 3) := by decide +kernel
theorem dL_law_1117 : decode cL_law 1117 = .ok (.istore 5, 2) := by decide +kernel
theorem dL_law_1119 : decode cL_law 1119 = .ok (.aload_n 2, 1) := by decide +kernel
theorem dL_law_1120 : decode cL_law 1120 = .ok (.aload_n 0, 1) := by decide +kernel
theorem dL_law_1121 : decode cL_law 1121 = .ok (.iload 4, 2) := by decide +kernel
theorem dL_law_1123 : decode cL_law 1123 = .ok (.iconst 1, 1) := by decide +kernel
theorem dL_law_1124 : decode cL_law 1124 = .ok (.iadd, 1) := by decide +kernel
theorem dL_law_1125 : decode cL_law 1125 = .ok (.iaload, 1) := by decide +kernel
theorem dL_law_1126 : decode cL_law 1126 = .ok (.aload_n 0, 1) := by decide +kernel
theorem dL_law_1127 : decode cL_law 1127 = .ok (.iload 4, 2) := by decide +kernel
theorem dL_law_1129 : decode cL_law 1129 = .ok (.iconst 2, 1) := by decide +kernel
theorem dL_law_1130 : decode cL_law 1130 = .ok (.iadd, 1) := by decide +kernel
theorem dL_law_1131 : decode cL_law 1131 = .ok (.iaload, 1) := by decide +kernel
theorem dL_law_1132 : decode cL_law 1132 = .ok (.invokevirtual 137, 3) := by decide +kernel
theorem dL_law_1135 : decode cL_law 1135 = .ok (.istore 6, 2) := by decide +kernel
theorem dL_law_1137 : decode cL_law 1137 = .ok (.aload_n 2, 1) := by decide +kernel
theorem dL_law_1138 : decode cL_law 1138 = .ok (.invokevirtual 92, 3) := by decide +kernel
theorem dL_law_1141 : decode cL_law 1141 = .ok (.iload 5, 2) := by decide +kernel
theorem dL_law_1143 : decode cL_law 1143 = .ok (.if_icmp .eq 5, 3) := by decide +kernel
theorem dL_law_1146 : decode cL_law 1146 = .ok (.iconst 0, 1) := by decide +kernel
theorem dL_law_1147 : decode cL_law 1147 = .ok (.ireturn, 1) := by decide +kernel
theorem dL_law_1148 : decode cL_law 1148 = .ok (.iload 5, 2) := by decide +kernel
theorem dL_law_1150 : decode cL_law 1150 = .ok (.ifCond .ne 15, 3) := by decide +kernel
theorem dL_law_1153 : decode cL_law 1153 = .ok (.aload_n 3, 1) := by decide +kernel
theorem dL_law_1154 : decode cL_law 1154 = .ok (.iconst 0, 1) := by decide +kernel
theorem dL_law_1155 : decode cL_law 1155 = .ok (.laload, 1) := by decide +kernel
theorem dL_law_1156 : decode cL_law 1156 = .ok (.iload 6, 2) := by decide +kernel
theorem dL_law_1158 : decode cL_law 1158 = .ok (.i2l, 1) := by decide +kernel
theorem dL_law_1159 : decode cL_law 1159 = .ok (.lcmp, 1) := by decide +kernel
theorem dL_law_1160 : decode cL_law 1160 = .ok (.ifCond .eq 5, 3) := by decide +kernel
theorem dL_law_1163 : decode cL_law 1163 = .ok (.iconst 0, 1) := by decide +kernel
theorem dL_law_1164 : decode cL_law 1164 = .ok (.ireturn, 1) := by decide +kernel
theorem dL_law_1165 : decode cL_law 1165 = .ok (.goto 546, 3) := by decide +kernel
theorem dL_law_1168 : decode cL_law 1168 = .ok (.aload_n 1, 1) := by decide +kernel
theorem dL_law_1169 : decode cL_law 1169 = .ok (.aload_n 0, 1) := by decide +kernel
theorem dL_law_1170 : decode cL_law 1170 = .ok (.iload 4, 2) := by decide +kernel
theorem dL_law_1172 : decode cL_law 1172 = .ok (.iconst 1, 1) := by decide +kernel
theorem dL_law_1173 : decode cL_law 1173 = .ok (.iadd, 1) := by decide +kernel
theorem dL_law_1174 : decode cL_law 1174 = .ok (.iaload, 1) := by decide +kernel
theorem dL_law_1175 : decode cL_law 1175 = .ok (.aload_n 0, 1) := by decide +kernel
theorem dL_law_1176 : decode cL_law 1176 = .ok (.iload 4, 2) := by decide +kernel
theorem dL_law_1178 : decode cL_law 1178 = .ok (.iconst 2, 1) := by decide +kernel
theorem dL_law_1179 : decode cL_law 1179 = .ok (.iadd, 1) := by decide +kernel
theorem dL_law_1180 : decode cL_law 1180 = .ok (.iaload, 1) := by decide +kernel
theorem dL_law_1181 : decode cL_law 1181 = .ok (.aload_n 3, 1) := by decide +kernel
theorem dL_law_1182 : decode cL_law 1182 = .ok (.invokestatic 138, 3) := by decide +kernel
theorem dL_law_1185 : decode cL_law 1185 = .ok (.istore 5, 2) := by decide +kernel
theorem dL_law_1187 : decode cL_law 1187 = .ok (.aload_n 2, 1) := by decide +kernel
theorem dL_law_1188 : decode cL_law 1188 = .ok (.aload_n 0, 1) := by decide +kernel
theorem dL_law_1189 : decode cL_law 1189 = .ok (.iload 4, 2) := by decide +kernel
theorem dL_law_1191 : decode cL_law 1191 = .ok (.iconst 1, 1) := by decide +kernel
theorem dL_law_1192 : decode cL_law 1192 = .ok (.iadd, 1) := by decide +kernel
theorem dL_law_1193 : decode cL_law 1193 = .ok (.iaload, 1) := by decide +kernel
theorem dL_law_1194 : decode cL_law 1194 = .ok (.aload_n 0, 1) := by decide +kernel
theorem dL_law_1195 : decode cL_law 1195 = .ok (.iload 4, 2) := by decide +kernel
theorem dL_law_1197 : decode cL_law 1197 = .ok (.iconst 2, 1) := by decide +kernel
theorem dL_law_1198 : decode cL_law 1198 = .ok (.iadd, 1) := by decide +kernel
theorem dL_law_1199 : decode cL_law 1199 = .ok (.iaload, 1) := by decide +kernel
theorem dL_law_1200 : decode cL_law 1200 = .ok (.invokevirtual 140, 3) := by decide +kernel
theorem dL_law_1203 : decode cL_law 1203 = .ok (.istore 6, 2) := by decide +kernel
theorem dL_law_1205 : decode cL_law 1205 = .ok (.aload_n 2, 1) := by decide +kernel
theorem dL_law_1206 : decode cL_law 1206 = .ok (.invokevirtual 92, 3) := by decide +kernel
theorem dL_law_1209 : decode cL_law 1209 = .ok (.iload 5, 2) := by decide +kernel
theorem dL_law_1211 : decode cL_law 1211 = .ok (.if_icmp .eq 5, 3) := by decide +kernel
theorem dL_law_1214 : decode cL_law 1214 = .ok (.iconst 0, 1) := by decide +kernel
theorem dL_law_1215 : decode cL_law 1215 = .ok (.ireturn, 1) := by decide +kernel
theorem dL_law_1216 : decode cL_law 1216 = .ok (.iload 5, 2) := by decide +kernel
theorem dL_law_1218 : decode cL_law 1218 = .ok (.ifCond .ne 15, 3) := by decide +kernel
theorem dL_law_1221 : decode cL_law 1221 = .ok (.aload_n 3, 1) := by decide +kernel
theorem dL_law_1222 : decode cL_law 1222 = .ok (.iconst 0, 1) := by decide +kernel
theorem dL_law_1223 : decode cL_law 1223 = .ok (.laload, 1) := by decide +kernel
theorem dL_law_1224 : decode cL_law 1224 = .ok (.iload 6, 2) := by decide +kernel
theorem dL_law_1226 : decode cL_law 1226 = .ok (.i2l, 1) := by decide +kernel
theorem dL_law_1227 : decode cL_law 1227 = .ok (.lcmp, 1) := by decide +kernel
theorem dL_law_1228 : decode cL_law 1228 = .ok (.ifCond .eq 5, 3) := by decide +kernel
theorem dL_law_1231 : decode cL_law 1231 = .ok (.iconst 0, 1) := by decide +kernel
theorem dL_law_1232 : decode cL_law 1232 = .ok (.ireturn, 1) := by decide +kernel
theorem dL_law_1233 : decode cL_law 1233 = .ok (.goto 478, 3) := by decide +kernel
theorem dL_law_1236 : decode cL_law 1236 = .ok (.aload_n 1, 1) := by decide +kernel
theorem dL_law_1237 : decode cL_law 1237 = .ok (.aload_n 0, 1) := by decide +kernel
theorem dL_law_1238 : decode cL_law 1238 = .ok (.iload 4, 2) := by decide +kernel
theorem dL_law_1240 : decode cL_law 1240 = .ok (.iconst 1, 1) := by decide +kernel
theorem dL_law_1241 : decode cL_law 1241 = .ok (.iadd, 1) := by decide +kernel
theorem dL_law_1242 : decode cL_law 1242 = .ok (.iaload, 1) := by decide +kernel
theorem dL_law_1243 : decode cL_law 1243 = .ok (.aload_n 0, 1) := by decide +kernel
theorem dL_law_1244 : decode cL_law 1244 = .ok (.iload 4, 2) := by decide +kernel
theorem dL_law_1246 : decode cL_law 1246 = .ok (.iconst 2, 1) := by decide +kernel
theorem dL_law_1247 : decode cL_law 1247 = .ok (.iadd, 1) := by decide +kernel
theorem dL_law_1248 : decode cL_law 1248 = .ok (.iaload, 1) := by decide +kernel
theorem dL_law_1249 : decode cL_law 1249 = .ok (.aload_n 3, 1) := by decide +kernel
theorem dL_law_1250 : decode cL_law 1250 = .ok (.invokestatic 141, 3) := by decide +kernel
theorem dL_law_1253 : decode cL_law 1253 = .ok (.istore 5, 2) := by decide +kernel
theorem dL_law_1255 : decode cL_law 1255 = .ok (.aload_n 2, 1) := by decide +kernel
theorem dL_law_1256 : decode cL_law 1256 = .ok (.aload_n 0, 1) := by decide +kernel
theorem dL_law_1257 : decode cL_law 1257 = .ok (.iload 4, 2) := by decide +kernel
theorem dL_law_1259 : decode cL_law 1259 = .ok (.iconst 1, 1) := by decide +kernel
theorem dL_law_1260 : decode cL_law 1260 = .ok (.iadd, 1) := by decide +kernel
theorem dL_law_1261 : decode cL_law 1261 = .ok (.iaload, 1) := by decide +kernel
theorem dL_law_1262 : decode cL_law 1262 = .ok (.aload_n 0, 1) := by decide +kernel
theorem dL_law_1263 : decode cL_law 1263 = .ok (.iload 4, 2) := by decide +kernel
theorem dL_law_1265 : decode cL_law 1265 = .ok (.iconst 2, 1) := by decide +kernel
theorem dL_law_1266 : decode cL_law 1266 = .ok (.iadd, 1) := by decide +kernel
theorem dL_law_1267 : decode cL_law 1267 = .ok (.iaload, 1) := by decide +kernel
theorem dL_law_1268 : decode cL_law 1268 = .ok (.invokevirtual 143, 3) := by decide +kernel
theorem dL_law_1271 : decode cL_law 1271 = .ok (.istore 6, 2) := by decide +kernel
theorem dL_law_1273 : decode cL_law 1273 = .ok (.aload_n 2, 1) := by decide +kernel
theorem dL_law_1274 : decode cL_law 1274 = .ok (.invokevirtual 92, 3) := by decide +kernel
theorem dL_law_1277 : decode cL_law 1277 = .ok (.iload 5, 2) := by decide +kernel
theorem dL_law_1279 : decode cL_law 1279 = .ok (.if_icmp .eq 5, 3) := by decide +kernel
theorem dL_law_1282 : decode cL_law 1282 = .ok (.iconst 0, 1) := by decide +kernel
theorem dL_law_1283 : decode cL_law 1283 = .ok (.ireturn, 1) := by decide +kernel
theorem dL_law_1284 : decode cL_law 1284 = .ok (.iload 5, 2) := by decide +kernel
theorem dL_law_1286 : decode cL_law 1286 = .ok (.ifCond .ne 15, 3) := by decide +kernel
theorem dL_law_1289 : decode cL_law 1289 = .ok (.aload_n 3, 1) := by decide +kernel
theorem dL_law_1290 : decode cL_law 1290 = .ok (.iconst 0, 1) := by decide +kernel
theorem dL_law_1291 : decode cL_law 1291 = .ok (.laload, 1) := by decide +kernel
theorem dL_law_1292 : decode cL_law 1292 = .ok (.iload 6, 2) := by decide +kernel
theorem dL_law_1294 : decode cL_law 1294 = .ok (.i2l, 1) := by decide +kernel
theorem dL_law_1295 : decode cL_law 1295 = .ok (.lcmp, 1) := by decide +kernel
theorem dL_law_1296 : decode cL_law 1296 = .ok (.ifCond .eq 5, 3) := by decide +kernel
theorem dL_law_1299 : decode cL_law 1299 = .ok (.iconst 0, 1) := by decide +kernel
theorem dL_law_1300 : decode cL_law 1300 = .ok (.ireturn, 1) := by decide +kernel
theorem dL_law_1301 : decode cL_law 1301 = .ok (.goto 410, 3) := by decide +kernel
theorem dL_law_1304 : decode cL_law 1304 = .ok (.aload_n 1, 1) := by decide +kernel
theorem dL_law_1305 : decode cL_law 1305 = .ok (.aload_n 0, 1) := by decide +kernel
theorem dL_law_1306 : decode cL_law 1306 = .ok (.iload 4, 2) := by decide +kernel
theorem dL_law_1308 : decode cL_law 1308 = .ok (.iconst 1, 1) := by decide +kernel
theorem dL_law_1309 : decode cL_law 1309 = .ok (.iadd, 1) := by decide +kernel
theorem dL_law_1310 : decode cL_law 1310 = .ok (.iaload, 1) := by decide +kernel
theorem dL_law_1311 : decode cL_law 1311 = .ok (.aload_n 3, 1) := by decide +kernel
theorem dL_law_1312 : decode cL_law 1312 = .ok (.invokestatic 144, 3) := by decide +kernel
theorem dL_law_1315 : decode cL_law 1315 = .ok (.istore 5, 2) := by decide +kernel
theorem dL_law_1317 : decode cL_law 1317 = .ok (.aload_n 2, 1) := by decide +kernel
theorem dL_law_1318 : decode cL_law 1318 = .ok (.aload_n 0, 1) := by decide +kernel
theorem dL_law_1319 : decode cL_law 1319 = .ok (.iload 4, 2) := by decide +kernel
theorem dL_law_1321 : decode cL_law 1321 = .ok (.iconst 1, 1) := by decide +kernel
theorem dL_law_1322 : decode cL_law 1322 = .ok (.iadd, 1) := by decide +kernel
theorem dL_law_1323 : decode cL_law 1323 = .ok (.iaload, 1) := by decide +kernel
theorem dL_law_1324 : decode cL_law 1324 = .ok (.invokevirtual 146, 3) := by decide +kernel
theorem dL_law_1327 : decode cL_law 1327 = .ok (.istore 6, 2) := by decide +kernel
theorem dL_law_1329 : decode cL_law 1329 = .ok (.aload_n 2, 1) := by decide +kernel
theorem dL_law_1330 : decode cL_law 1330 = .ok (.invokevirtual 92, 3) := by decide +kernel
theorem dL_law_1333 : decode cL_law 1333 = .ok (.iload 5, 2) := by decide +kernel
theorem dL_law_1335 : decode cL_law 1335 = .ok (.if_icmp .eq 5, 3) := by decide +kernel
theorem dL_law_1338 : decode cL_law 1338 = .ok (.iconst 0, 1) := by decide +kernel
theorem dL_law_1339 : decode cL_law 1339 = .ok (.ireturn, 1) := by decide +kernel
theorem dL_law_1340 : decode cL_law 1340 = .ok (.iload 5, 2) := by decide +kernel
theorem dL_law_1342 : decode cL_law 1342 = .ok (.ifCond .ne 15, 3) := by decide +kernel
theorem dL_law_1345 : decode cL_law 1345 = .ok (.aload_n 3, 1) := by decide +kernel
theorem dL_law_1346 : decode cL_law 1346 = .ok (.iconst 0, 1) := by decide +kernel
theorem dL_law_1347 : decode cL_law 1347 = .ok (.laload, 1) := by decide +kernel
theorem dL_law_1348 : decode cL_law 1348 = .ok (.iload 6, 2) := by decide +kernel
theorem dL_law_1350 : decode cL_law 1350 = .ok (.i2l, 1) := by decide +kernel
theorem dL_law_1351 : decode cL_law 1351 = .ok (.lcmp, 1) := by decide +kernel
theorem dL_law_1352 : decode cL_law 1352 = .ok (.ifCond .eq 5, 3) := by decide +kernel
theorem dL_law_1355 : decode cL_law 1355 = .ok (.iconst 0, 1) := by decide +kernel
theorem dL_law_1356 : decode cL_law 1356 = .ok (.ireturn, 1) := by decide +kernel
theorem dL_law_1357 : decode cL_law 1357 = .ok (.goto 354, 3) := by decide +kernel
theorem dL_law_1360 : decode cL_law 1360 = .ok (.aload_n 1, 1) := by decide +kernel
theorem dL_law_1361 : decode cL_law 1361 = .ok (.invokevirtual 147, 3) := by decide +kernel
theorem dL_law_1364 : decode cL_law 1364 = .ok (.dstore 5, 2) := by decide +kernel
theorem dL_law_1366 : decode cL_law 1366 = .ok (.aload_n 2, 1) := by decide +kernel
theorem dL_law_1367 : decode cL_law 1367 = .ok (.invokevirtual 151, 3) := by decide +kernel
theorem dL_law_1370 : decode cL_law 1370 = .ok (.dstore 7, 2) := by decide +kernel
theorem dL_law_1372 : decode cL_law 1372 = .ok (.dload 5, 2) := by decide +kernel
theorem dL_law_1374 : decode cL_law 1374 = .ok (.dload 7, 2) := by decide +kernel
theorem dL_law_1376 : decode cL_law 1376 = .ok (.dcmp .l, 1) := by decide +kernel
theorem dL_law_1377 : decode cL_law 1377 = .ok (.ifCond .eq 21, 3) := by decide +kernel
theorem dL_law_1380 : decode cL_law 1380 = .ok (.dload 5, 2) := by decide +kernel
theorem dL_law_1382 : decode cL_law 1382 = .ok (.dload 5, 2) := by decide +kernel
theorem dL_law_1384 : decode cL_law 1384 = .ok (.dcmp .l, 1) := by decide +kernel
theorem dL_law_1385 : decode cL_law 1385 = .ok (.ifCond .eq 11, 3) := by decide +kernel
theorem dL_law_1388 : decode cL_law 1388 = .ok (.dload 7, 2) := by decide +kernel
theorem dL_law_1390 : decode cL_law 1390 = .ok (.dload 7, 2) := by decide +kernel
theorem dL_law_1392 : decode cL_law 1392 = .ok (.dcmp .l, 1) := by decide +kernel
theorem dL_law_1393 : decode cL_law 1393 = .ok (.ifCond .ne 5, 3) := by decide +kernel
theorem dL_law_1396 : decode cL_law 1396 = .ok (.iconst 0, 1) := by decide +kernel
theorem dL_law_1397 : decode cL_law 1397 = .ok (.ireturn, 1) := by decide +kernel
theorem dL_law_1398 : decode cL_law 1398 = .ok (.goto 313, 3) := by decide +kernel
theorem dL_law_1401 : decode cL_law 1401 = .ok (.aload_n 1, 1) := by decide +kernel
theorem dL_law_1402 : decode cL_law 1402 = .ok (.aload_n 0, 1) := by decide +kernel
theorem dL_law_1403 : decode cL_law 1403 = .ok (.iload 4, 2) := by decide +kernel
theorem dL_law_1405 : decode cL_law 1405 = .ok (.iconst 1, 1) := by decide +kernel
theorem dL_law_1406 : decode cL_law 1406 = .ok (.iadd, 1) := by decide +kernel
theorem dL_law_1407 : decode cL_law 1407 = .ok (.iaload, 1) := by decide +kernel
theorem dL_law_1408 : decode cL_law 1408 = .ok (.aload_n 0, 1) := by decide +kernel
theorem dL_law_1409 : decode cL_law 1409 = .ok (.iload 4, 2) := by decide +kernel
theorem dL_law_1411 : decode cL_law 1411 = .ok (.iconst 2, 1) := by decide +kernel
theorem dL_law_1412 : decode cL_law 1412 = .ok (.iadd, 1) := by decide +kernel
theorem dL_law_1413 : decode cL_law 1413 = .ok (.iaload, 1) := by decide +kernel
theorem dL_law_1414 : decode cL_law 1414 = .ok (.aload_n 0, 1) := by decide +kernel
theorem dL_law_1415 : decode cL_law 1415 = .ok (.iload 4, 2) := by decide +kernel
theorem dL_law_1417 : decode cL_law 1417 = .ok (.iconst 3, 1) := by decide +kernel
theorem dL_law_1418 : decode cL_law 1418 = .ok (.iadd, 1) := by decide +kernel
theorem dL_law_1419 : decode cL_law 1419 = .ok (.iaload, 1) := by decide +kernel
theorem dL_law_1420 : decode cL_law 1420 = .ok (.aload_n 3, 1) := by decide +kernel
theorem dL_law_1421 : decode cL_law 1421 = .ok (.invokestatic 152, 3) := by decide +kernel
theorem dL_law_1424 : decode cL_law 1424 = .ok (.istore 5, 2) := by decide +kernel
theorem dL_law_1426 : decode cL_law 1426 = .ok (.aload_n 2, 1) := by decide +kernel
theorem dL_law_1427 : decode cL_law 1427 = .ok (.aload_n 0, 1) := by decide +kernel
theorem dL_law_1428 : decode cL_law 1428 = .ok (.iload 4, 2) := by decide +kernel
theorem dL_law_1430 : decode cL_law 1430 = .ok (.iconst 1, 1) := by decide +kernel
theorem dL_law_1431 : decode cL_law 1431 = .ok (.iadd, 1) := by decide +kernel
theorem dL_law_1432 : decode cL_law 1432 = .ok (.iaload, 1) := by decide +kernel
theorem dL_law_1433 : decode cL_law 1433 = .ok (.aload_n 0, 1) := by decide +kernel
theorem dL_law_1434 : decode cL_law 1434 = .ok (.iload 4, 2) := by decide +kernel
theorem dL_law_1436 : decode cL_law 1436 = .ok (.iconst 2, 1) := by decide +kernel
theorem dL_law_1437 : decode cL_law 1437 = .ok (.iadd, 1) := by decide +kernel
theorem dL_law_1438 : decode cL_law 1438 = .ok (.iaload, 1) := by decide +kernel
theorem dL_law_1439 : decode cL_law 1439 = .ok (.aload_n 0, 1) := by decide +kernel
theorem dL_law_1440 : decode cL_law 1440 = .ok (.iload 4, 2) := by decide +kernel
theorem dL_law_1442 : decode cL_law 1442 = .ok (.iconst 3, 1) := by decide +kernel
theorem dL_law_1443 : decode cL_law 1443 = .ok (.iadd, 1) := by decide +kernel
theorem dL_law_1444 : decode cL_law 1444 = .ok (.iaload, 1) := by decide +kernel
theorem dL_law_1445 : decode cL_law 1445 = .ok (.invokevirtual 154, 3) := by decide +kernel
theorem dL_law_1448 : decode cL_law 1448 = .ok (.istore 6, 2) := by decide +kernel
theorem dL_law_1450 : decode cL_law 1450 = .ok (.aload_n 2, 1) := by decide +kernel
theorem dL_law_1451 : decode cL_law 1451 = .ok (.invokevirtual 92, 3) := by decide +kernel
theorem dL_law_1454 : decode cL_law 1454 = .ok (.iload 5, 2) := by decide +kernel
theorem dL_law_1456 : decode cL_law 1456 = .ok (.if_icmp .eq 5, 3) := by decide +kernel
theorem dL_law_1459 : decode cL_law 1459 = .ok (.iconst 0, 1) := by decide +kernel
theorem dL_law_1460 : decode cL_law 1460 = .ok (.ireturn, 1) := by decide +kernel
theorem dL_law_1461 : decode cL_law 1461 = .ok (.iload 5, 2) := by decide +kernel
theorem dL_law_1463 : decode cL_law 1463 = .ok (.ifCond .ne 15, 3) := by decide +kernel
theorem dL_law_1466 : decode cL_law 1466 = .ok (.aload_n 3, 1) := by decide +kernel
theorem dL_law_1467 : decode cL_law 1467 = .ok (.iconst 0, 1) := by decide +kernel
theorem dL_law_1468 : decode cL_law 1468 = .ok (.laload, 1) := by decide +kernel
theorem dL_law_1469 : decode cL_law 1469 = .ok (.iload 6, 2) := by decide +kernel
theorem dL_law_1471 : decode cL_law 1471 = .ok (.i2l, 1) := by decide +kernel
theorem dL_law_1472 : decode cL_law 1472 = .ok (.lcmp, 1) := by decide +kernel
theorem dL_law_1473 : decode cL_law 1473 = .ok (.ifCond .eq 5, 3) := by decide +kernel
theorem dL_law_1476 : decode cL_law 1476 = .ok (.iconst 0, 1) := by decide +kernel
theorem dL_law_1477 : decode cL_law 1477 = .ok (.ireturn, 1) := by decide +kernel
theorem dL_law_1478 : decode cL_law 1478 = .ok (.goto 233, 3) := by decide +kernel
theorem dL_law_1481 : decode cL_law 1481 = .ok (.aload_n 1, 1) := by decide +kernel
theorem dL_law_1482 : decode cL_law 1482 = .ok (.aload_n 0, 1) := by decide +kernel
theorem dL_law_1483 : decode cL_law 1483 = .ok (.iload 4, 2) := by decide +kernel
theorem dL_law_1485 : decode cL_law 1485 = .ok (.iconst 1, 1) := by decide +kernel
theorem dL_law_1486 : decode cL_law 1486 = .ok (.iadd, 1) := by decide +kernel
theorem dL_law_1487 : decode cL_law 1487 = .ok (.iaload, 1) := by decide +kernel
theorem dL_law_1488 : decode cL_law 1488 = .ok (.aload_n 0, 1) := by decide +kernel
theorem dL_law_1489 : decode cL_law 1489 = .ok (.iload 4, 2) := by decide +kernel
theorem dL_law_1491 : decode cL_law 1491 = .ok (.iconst 2, 1) := by decide +kernel
theorem dL_law_1492 : decode cL_law 1492 = .ok (.iadd, 1) := by decide +kernel
theorem dL_law_1493 : decode cL_law 1493 = .ok (.iaload, 1) := by decide +kernel
theorem dL_law_1494 : decode cL_law 1494 = .ok (.aload_n 3, 1) := by decide +kernel
theorem dL_law_1495 : decode cL_law 1495 = .ok (.invokestatic 155, 3) := by decide +kernel
theorem dL_law_1498 : decode cL_law 1498 = .ok (.istore 5, 2) := by decide +kernel
theorem dL_law_1500 : decode cL_law 1500 = .ok (.aload_n 2, 1) := by decide +kernel
theorem dL_law_1501 : decode cL_law 1501 = .ok (.aload_n 0, 1) := by decide +kernel
theorem dL_law_1502 : decode cL_law 1502 = .ok (.iload 4, 2) := by decide +kernel
theorem dL_law_1504 : decode cL_law 1504 = .ok (.iconst 1, 1) := by decide +kernel
theorem dL_law_1505 : decode cL_law 1505 = .ok (.iadd, 1) := by decide +kernel
theorem dL_law_1506 : decode cL_law 1506 = .ok (.iaload, 1) := by decide +kernel
theorem dL_law_1507 : decode cL_law 1507 = .ok (.aload_n 0, 1) := by decide +kernel
theorem dL_law_1508 : decode cL_law 1508 = .ok (.iload 4, 2) := by decide +kernel
theorem dL_law_1510 : decode cL_law 1510 = .ok (.iconst 2, 1) := by decide +kernel
theorem dL_law_1511 : decode cL_law 1511 = .ok (.iadd, 1) := by decide +kernel
theorem dL_law_1512 : decode cL_law 1512 = .ok (.iaload, 1) := by decide +kernel
theorem dL_law_1513 : decode cL_law 1513 = .ok (.invokevirtual 157, 3) := by decide +kernel
theorem dL_law_1516 : decode cL_law 1516 = .ok (.istore 6, 2) := by decide +kernel
theorem dL_law_1518 : decode cL_law 1518 = .ok (.aload_n 2, 1) := by decide +kernel
theorem dL_law_1519 : decode cL_law 1519 = .ok (.invokevirtual 92, 3) := by decide +kernel
theorem dL_law_1522 : decode cL_law 1522 = .ok (.iload 5, 2) := by decide +kernel
theorem dL_law_1524 : decode cL_law 1524 = .ok (.if_icmp .eq 5, 3) := by decide +kernel
theorem dL_law_1527 : decode cL_law 1527 = .ok (.iconst 0, 1) := by decide +kernel
theorem dL_law_1528 : decode cL_law 1528 = .ok (.ireturn, 1) := by decide +kernel
theorem dL_law_1529 : decode cL_law 1529 = .ok (.iload 5, 2) := by decide +kernel
theorem dL_law_1531 : decode cL_law 1531 = .ok (.ifCond .ne 15, 3) := by decide +kernel
theorem dL_law_1534 : decode cL_law 1534 = .ok (.aload_n 3, 1) := by decide +kernel
theorem dL_law_1535 : decode cL_law 1535 = .ok (.iconst 0, 1) := by decide +kernel
theorem dL_law_1536 : decode cL_law 1536 = .ok (.laload, 1) := by decide +kernel
theorem dL_law_1537 : decode cL_law 1537 = .ok (.iload 6, 2) := by decide +kernel
theorem dL_law_1539 : decode cL_law 1539 = .ok (.i2l, 1) := by decide +kernel
theorem dL_law_1540 : decode cL_law 1540 = .ok (.lcmp, 1) := by decide +kernel
theorem dL_law_1541 : decode cL_law 1541 = .ok (.ifCond .eq 5, 3) := by decide +kernel
theorem dL_law_1544 : decode cL_law 1544 = .ok (.iconst 0, 1) := by decide +kernel
theorem dL_law_1545 : decode cL_law 1545 = .ok (.ireturn, 1) := by decide +kernel
theorem dL_law_1546 : decode cL_law 1546 = .ok (.goto 165, 3) := by decide +kernel
theorem dL_law_1549 : decode cL_law 1549 = .ok (.aload_n 1, 1) := by decide +kernel
theorem dL_law_1550 : decode cL_law 1550 = .ok (.aload_n 0, 1) := by decide +kernel
theorem dL_law_1551 : decode cL_law 1551 = .ok (.iload 4, 2) := by decide +kernel
theorem dL_law_1553 : decode cL_law 1553 = .ok (.iconst 1, 1) := by decide +kernel
theorem dL_law_1554 : decode cL_law 1554 = .ok (.iadd, 1) := by decide +kernel
theorem dL_law_1555 : decode cL_law 1555 = .ok (.iaload, 1) := by decide +kernel
theorem dL_law_1556 : decode cL_law 1556 = .ok (.aload_n 0, 1) := by decide +kernel
theorem dL_law_1557 : decode cL_law 1557 = .ok (.iload 4, 2) := by decide +kernel
theorem dL_law_1559 : decode cL_law 1559 = .ok (.iconst 2, 1) := by decide +kernel
theorem dL_law_1560 : decode cL_law 1560 = .ok (.iadd, 1) := by decide +kernel
theorem dL_law_1561 : decode cL_law 1561 = .ok (.iaload, 1) := by decide +kernel
theorem dL_law_1562 : decode cL_law 1562 = .ok (.aload_n 0, 1) := by decide +kernel
theorem dL_law_1563 : decode cL_law 1563 = .ok (.iload 4, 2) := by decide +kernel
theorem dL_law_1565 : decode cL_law 1565 = .ok (.iconst 3, 1) := by decide +kernel
theorem dL_law_1566 : decode cL_law 1566 = .ok (.iadd, 1) := by decide +kernel
theorem dL_law_1567 : decode cL_law 1567 = .ok (.iaload, 1) := by decide +kernel
theorem dL_law_1568 : decode cL_law 1568 = .ok (.aload_n 3, 1) := by decide +kernel
theorem dL_law_1569 : decode cL_law 1569 = .ok (.invokestatic 158, 3) := by decide +kernel
theorem dL_law_1572 : decode cL_law 1572 = .ok (.istore 5, 2) := by decide +kernel
theorem dL_law_1574 : decode cL_law 1574 = .ok (.aload_n 2, 1) := by decide +kernel
theorem dL_law_1575 : decode cL_law 1575 = .ok (.aload_n 0, 1) := by decide +kernel
theorem dL_law_1576 : decode cL_law 1576 = .ok (.iload 4, 2) := by decide +kernel
theorem dL_law_1578 : decode cL_law 1578 = .ok (.iconst 1, 1) := by decide +kernel
theorem dL_law_1579 : decode cL_law 1579 = .ok (.iadd, 1) := by decide +kernel
theorem dL_law_1580 : decode cL_law 1580 = .ok (.iaload, 1) := by decide +kernel
theorem dL_law_1581 : decode cL_law 1581 = .ok (.aload_n 0, 1) := by decide +kernel
theorem dL_law_1582 : decode cL_law 1582 = .ok (.iload 4, 2) := by decide +kernel
theorem dL_law_1584 : decode cL_law 1584 = .ok (.iconst 2, 1) := by decide +kernel
theorem dL_law_1585 : decode cL_law 1585 = .ok (.iadd, 1) := by decide +kernel
theorem dL_law_1586 : decode cL_law 1586 = .ok (.iaload, 1) := by decide +kernel
theorem dL_law_1587 : decode cL_law 1587 = .ok (.aload_n 0, 1) := by decide +kernel
theorem dL_law_1588 : decode cL_law 1588 = .ok (.iload 4, 2) := by decide +kernel
theorem dL_law_1590 : decode cL_law 1590 = .ok (.iconst 3, 1) := by decide +kernel
theorem dL_law_1591 : decode cL_law 1591 = .ok (.iadd, 1) := by decide +kernel
theorem dL_law_1592 : decode cL_law 1592 = .ok (.iaload, 1) := by decide +kernel
theorem dL_law_1593 : decode cL_law 1593 = .ok (.invokevirtual 160, 3) := by decide +kernel
theorem dL_law_1596 : decode cL_law 1596 = .ok (.istore 6, 2) := by decide +kernel
theorem dL_law_1598 : decode cL_law 1598 = .ok (.aload_n 2, 1) := by decide +kernel
theorem dL_law_1599 : decode cL_law 1599 = .ok (.invokevirtual 92, 3) := by decide +kernel
theorem dL_law_1602 : decode cL_law 1602 = .ok (.iload 5, 2) := by decide +kernel
theorem dL_law_1604 : decode cL_law 1604 = .ok (.if_icmp .eq 5, 3) := by decide +kernel
theorem dL_law_1607 : decode cL_law 1607 = .ok (.iconst 0, 1) := by decide +kernel
theorem dL_law_1608 : decode cL_law 1608 = .ok (.ireturn, 1) := by decide +kernel
theorem dL_law_1609 : decode cL_law 1609 = .ok (.iload 5, 2) := by decide +kernel
theorem dL_law_1611 : decode cL_law 1611 = .ok (.ifCond .ne 15, 3) := by decide +kernel
theorem dL_law_1614 : decode cL_law 1614 = .ok (.aload_n 3, 1) := by decide +kernel
theorem dL_law_1615 : decode cL_law 1615 = .ok (.iconst 0, 1) := by decide +kernel
theorem dL_law_1616 : decode cL_law 1616 = .ok (.laload, 1) := by decide +kernel
theorem dL_law_1617 : decode cL_law 1617 = .ok (.iload 6, 2) := by decide +kernel
theorem dL_law_1619 : decode cL_law 1619 = .ok (.i2l, 1) := by decide +kernel
theorem dL_law_1620 : decode cL_law 1620 = .ok (.lcmp, 1) := by decide +kernel
theorem dL_law_1621 : decode cL_law 1621 = .ok (.ifCond .eq 5, 3) := by decide +kernel
theorem dL_law_1624 : decode cL_law 1624 = .ok (.iconst 0, 1) := by decide +kernel
theorem dL_law_1625 : decode cL_law 1625 = .ok (.ireturn, 1) := by decide +kernel
theorem dL_law_1626 : decode cL_law 1626 = .ok (.goto 85, 3) := by decide +kernel
theorem dL_law_1629 : decode cL_law 1629 = .ok (.aload_n 1, 1) := by decide +kernel
theorem dL_law_1630 : decode cL_law 1630 = .ok (.aload_n 0, 1) := by decide +kernel
theorem dL_law_1631 : decode cL_law 1631 = .ok (.iload 4, 2) := by decide +kernel
theorem dL_law_1633 : decode cL_law 1633 = .ok (.iconst 1, 1) := by decide +kernel
theorem dL_law_1634 : decode cL_law 1634 = .ok (.iadd, 1) := by decide +kernel
theorem dL_law_1635 : decode cL_law 1635 = .ok (.iaload, 1) := by decide +kernel
theorem dL_law_1636 : decode cL_law 1636 = .ok (.aload_n 0, 1) := by decide +kernel
theorem dL_law_1637 : decode cL_law 1637 = .ok (.iload 4, 2) := by decide +kernel
theorem dL_law_1639 : decode cL_law 1639 = .ok (.iconst 2, 1) := by decide +kernel
theorem dL_law_1640 : decode cL_law 1640 = .ok (.iadd, 1) := by decide +kernel
theorem dL_law_1641 : decode cL_law 1641 = .ok (.iaload, 1) := by decide +kernel
theorem dL_law_1642 : decode cL_law 1642 = .ok (.aload_n 3, 1) := by decide +kernel
theorem dL_law_1643 : decode cL_law 1643 = .ok (.invokestatic 161, 3) := by decide +kernel
theorem dL_law_1646 : decode cL_law 1646 = .ok (.istore 5, 2) := by decide +kernel
theorem dL_law_1648 : decode cL_law 1648 = .ok (.aload_n 2, 1) := by decide +kernel
theorem dL_law_1649 : decode cL_law 1649 = .ok (.aload_n 0, 1) := by decide +kernel
theorem dL_law_1650 : decode cL_law 1650 = .ok (.iload 4, 2) := by decide +kernel
theorem dL_law_1652 : decode cL_law 1652 = .ok (.iconst 1, 1) := by decide +kernel
theorem dL_law_1653 : decode cL_law 1653 = .ok (.iadd, 1) := by decide +kernel
theorem dL_law_1654 : decode cL_law 1654 = .ok (.iaload, 1) := by decide +kernel
theorem dL_law_1655 : decode cL_law 1655 = .ok (.aload_n 0, 1) := by decide +kernel
theorem dL_law_1656 : decode cL_law 1656 = .ok (.iload 4, 2) := by decide +kernel
theorem dL_law_1658 : decode cL_law 1658 = .ok (.iconst 2, 1) := by decide +kernel
theorem dL_law_1659 : decode cL_law 1659 = .ok (.iadd, 1) := by decide +kernel
theorem dL_law_1660 : decode cL_law 1660 = .ok (.iaload, 1) := by decide +kernel
theorem dL_law_1661 : decode cL_law 1661 = .ok (.invokevirtual 163, 3) := by decide +kernel
theorem dL_law_1664 : decode cL_law 1664 = .ok (.istore 6, 2) := by decide +kernel
theorem dL_law_1666 : decode cL_law 1666 = .ok (.aload_n 2, 1) := by decide +kernel
theorem dL_law_1667 : decode cL_law 1667 = .ok (.invokevirtual 92, 3) := by decide +kernel
theorem dL_law_1670 : decode cL_law 1670 = .ok (.iload 5, 2) := by decide +kernel
theorem dL_law_1672 : decode cL_law 1672 = .ok (.if_icmp .eq 5, 3) := by decide +kernel
theorem dL_law_1675 : decode cL_law 1675 = .ok (.iconst 0, 1) := by decide +kernel
theorem dL_law_1676 : decode cL_law 1676 = .ok (.ireturn, 1) := by decide +kernel
theorem dL_law_1677 : decode cL_law 1677 = .ok (.iload 5, 2) := by decide +kernel
theorem dL_law_1679 : decode cL_law 1679 = .ok (.ifCond .ne 15, 3) := by decide +kernel
theorem dL_law_1682 : decode cL_law 1682 = .ok (.aload_n 3, 1) := by decide +kernel
theorem dL_law_1683 : decode cL_law 1683 = .ok (.iconst 0, 1) := by decide +kernel
theorem dL_law_1684 : decode cL_law 1684 = .ok (.laload, 1) := by decide +kernel
theorem dL_law_1685 : decode cL_law 1685 = .ok (.iload 6, 2) := by decide +kernel
theorem dL_law_1687 : decode cL_law 1687 = .ok (.i2l, 1) := by decide +kernel
theorem dL_law_1688 : decode cL_law 1688 = .ok (.lcmp, 1) := by decide +kernel
theorem dL_law_1689 : decode cL_law 1689 = .ok (.ifCond .eq 5, 3) := by decide +kernel
theorem dL_law_1692 : decode cL_law 1692 = .ok (.iconst 0, 1) := by decide +kernel
theorem dL_law_1693 : decode cL_law 1693 = .ok (.ireturn, 1) := by decide +kernel
theorem dL_law_1694 : decode cL_law 1694 = .ok (.goto 17, 3) := by decide +kernel
theorem dL_law_1697 : decode cL_law 1697 = .ok (.aload_n 1, 1) := by decide +kernel
theorem dL_law_1698 : decode cL_law 1698 = .ok (.invokevirtual 164, 3) := by decide +kernel
theorem dL_law_1701 : decode cL_law 1701 = .ok (.aload_n 2, 1) := by decide +kernel
theorem dL_law_1702 : decode cL_law 1702 = .ok (.invokevirtual 168, 3) := by decide +kernel
theorem dL_law_1705 : decode cL_law 1705 = .ok (.lcmp, 1) := by decide +kernel
theorem dL_law_1706 : decode cL_law 1706 = .ok (.ifCond .eq 5, 3) := by decide +kernel
theorem dL_law_1709 : decode cL_law 1709 = .ok (.iconst 0, 1) := by decide +kernel
theorem dL_law_1710 : decode cL_law 1710 = .ok (.ireturn, 1) := by decide +kernel
theorem dL_law_1711 : decode cL_law 1711 = .ok (.iinc 4 5, 3) := by decide +kernel
theorem dL_law_1714 : decode cL_law 1714 = .ok (.goto (-1691), 3) := by decide +kernel
theorem dL_law_1717 : decode cL_law 1717 = .ok (.iconst 1, 1) := by decide +kernel
theorem dL_law_1718 : decode cL_law 1718 = .ok (.ireturn, 1) := by decide +kernel
