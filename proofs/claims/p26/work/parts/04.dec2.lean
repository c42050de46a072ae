theorem dX6_init_0 : decode cX6_init 0 = .ok (.aload_n 0, 1) := by decide +kernel
theorem dX6_init_1 : decode cX6_init 1 = .ok (.invokespecial 1, 3) := by decide +kernel
theorem dX6_init_4 : decode cX6_init 4 = .ok (.aload_n 0, 1) := by decide +kernel
theorem dX6_init_5 : decode cX6_init 5 = .ok (.new 7, 3) := by decide +kernel
theorem dX6_init_8 : decode cX6_init 8 = .ok (.dup, 1) := by decide +kernel
theorem dX6_init_9 : decode cX6_init 9 = .ok (.invokespecial 9, 3) := by decide +kernel
theorem dX6_init_12 : decode cX6_init 12 = .ok (.putfield 10, 3) := by decide +kernel
theorem dX6_init_15 : decode cX6_init 15 = .ok (.aload_n 0, 1) := by decide +kernel
theorem dX6_init_16 : decode cX6_init 16 = .ok (.bipush 10, 2) := by decide +kernel
theorem dX6_init_18 : decode cX6_init 18 = .ok (.bipush 11, 2) := by decide +kernel
theorem dX6_init_20 : decode cX6_init 20 = .ok (.multianewarray 16 2, 4) := by decide +kernel
theorem dX6_init_24 : decode cX6_init 24 = .ok (.putfield 18, 3) := by decide +kernel
theorem dX6_init_27 : decode cX6_init 27 = .ok (.aload_n 0, 1) := by decide +kernel
theorem dX6_init_28 : decode cX6_init 28 = .ok (.iconst 0, 1) := by decide +kernel
theorem dX6_init_29 : decode cX6_init 29 = .ok (.newarray .int, 2) := by decide +kernel
theorem dX6_init_31 : decode cX6_init 31 = .ok (.putfield 21, 3) := by decide +kernel
theorem dX6_init_34 : decode cX6_init 34 = .ok (.aload_n 0, 1) := by decide +kernel
theorem dX6_init_35 : decode cX6_init 35 = .ok (.sipush 5040, 3) := by decide +kernel
theorem dX6_init_38 : decode cX6_init 38 = .ok (.newarray .int, 2) := by decide +kernel
theorem dX6_init_40 : decode cX6_init 40 = .ok (.putfield 25, 3) := by decide +kernel
theorem dX6_init_43 : decode cX6_init 43 = .ok (.aload_n 0, 1) := by decide +kernel
theorem dX6_init_44 : decode cX6_init 44 = .ok (.sipush 5040, 3) := by decide +kernel
theorem dX6_init_47 : decode cX6_init 47 = .ok (.newarray .int, 2) := by decide +kernel
theorem dX6_init_49 : decode cX6_init 49 = .ok (.putfield 28, 3) := by decide +kernel
theorem dX6_init_52 : decode cX6_init 52 = .ok (.aload_n 0, 1) := by decide +kernel
theorem dX6_init_53 : decode cX6_init 53 = .ok (.iconst 0, 1) := by decide +kernel
theorem dX6_init_54 : decode cX6_init 54 = .ok (.anewarray 31, 3) := by decide +kernel
theorem dX6_init_57 : decode cX6_init 57 = .ok (.putfield 32, 3) := by decide +kernel
theorem dX6_init_60 : decode cX6_init 60 = .ok (.aload_n 0, 1) := by decide +kernel
theorem dX6_init_61 : decode cX6_init 61 = .ok (.iconst 0, 1) := by decide +kernel
theorem dX6_init_62 : decode cX6_init 62 = .ok (.anewarray 31, 3) := by decide +kernel
theorem dX6_init_65 : decode cX6_init 65 = .ok (.putfield 35, 3) := by decide +kernel
theorem dX6_init_68 : decode cX6_init 68 = .ok (.aload_n 0, 1) := by decide +kernel
theorem dX6_init_69 : decode cX6_init 69 = .ok (.sipush 200, 3) := by decide +kernel
theorem dX6_init_72 : decode cX6_init 72 = .ok (.putfield 38, 3) := by decide +kernel
theorem dX6_init_75 : decode cX6_init 75 = .ok (.aload_n 0, 1) := by decide +kernel
theorem dX6_init_76 : decode cX6_init 76 = .ok (.bipush 40, 2) := by decide +kernel
theorem dX6_init_78 : decode cX6_init 78 = .ok (.putfield 42, 3) := by decide +kernel
theorem dX6_init_81 : decode cX6_init 81 = .ok (.aload_n 0, 1) := by decide +kernel
theorem dX6_init_82 : decode cX6_init 82 = .ok (.aload_n 1, 1) := by decide +kernel
theorem dX6_init_83 : decode cX6_init 83 = .ok (.putfield 45, 3) := by decide +kernel
theorem dX6_init_86 : decode cX6_init 86 = .ok (.aload_n 0, 1) := by decide +kernel
theorem dX6_init_87 : decode cX6_init 87 = .ok (.iload_n 2, 1) := by decide +kernel
theorem dX6_init_88 : decode cX6_init 88 = .ok (.putfield 48, 3) := by decide +kernel
theorem dX6_init_91 : decode cX6_init 91 = .ok (.return_, 1) := by decide +kernel
theorem dX6_draw_0 : decode cX6_draw 0 = .ok (.aload_n 0, 1) := by decide +kernel
theorem dX6_draw_1 : decode cX6_draw 1 = .ok (.getfield 45, 3) := by decide +kernel
theorem dX6_draw_4 : decode cX6_draw 4 = .ok (.aload_n 0, 1) := by decide +kernel
theorem dX6_draw_5 : decode cX6_draw 5 = .ok (.getfield 48, 3) := by decide +kernel
theorem dX6_draw_8 : decode cX6_draw 8 = .ok (.bipush 24, 2) := by decide +kernel
theorem dX6_draw_10 : decode cX6_draw 10 = .ok (.irem, 1) := by decide +kernel
theorem dX6_draw_11 : decode cX6_draw 11 = .ok (.invokestatic 51, 3) := by decide +kernel
theorem dX6_draw_14 : decode cX6_draw 14 = .ok (.aload_n 0, 1) := by decide +kernel
theorem dX6_draw_15 : decode cX6_draw 15 = .ok (.getfield 48, 3) := by decide +kernel
theorem dX6_draw_18 : decode cX6_draw 18 = .ok (.bipush 24, 2) := by decide +kernel
theorem dX6_draw_20 : decode cX6_draw 20 = .ok (.idiv, 1) := by decide +kernel
theorem dX6_draw_21 : decode cX6_draw 21 = .ok (.bipush 8, 2) := by decide +kernel
theorem dX6_draw_23 : decode cX6_draw 23 = .ok (.irem, 1) := by decide +kernel
theorem dX6_draw_24 : decode cX6_draw 24 = .ok (.ishr, 1) := by decide +kernel
theorem dX6_draw_25 : decode cX6_draw 25 = .ok (.sipush 317, 3) := by decide +kernel
theorem dX6_draw_28 : decode cX6_draw 28 = .ok (.aload_n 0, 1) := by decide +kernel
theorem dX6_draw_29 : decode cX6_draw 29 = .ok (.getfield 48, 3) := by decide +kernel
theorem dX6_draw_32 : decode cX6_draw 32 = .ok (.imul, 1) := by decide +kernel
theorem dX6_draw_33 : decode cX6_draw 33 = .ok (.iadd, 1) := by decide +kernel
theorem dX6_draw_34 : decode cX6_draw 34 = .ok (.iload_n 1, 1) := by decide +kernel
theorem dX6_draw_35 : decode cX6_draw 35 = .ok (.invokestatic 57, 3) := by decide +kernel
theorem dX6_draw_38 : decode cX6_draw 38 = .ok (.istore_n 2, 1) := by decide +kernel
theorem dX6_draw_39 : decode cX6_draw 39 = .ok (.aload_n 0, 1) := by decide +kernel
theorem dX6_draw_40 : decode cX6_draw 40 = .ok (.dup, 1) := by decide +kernel
theorem dX6_draw_41 : decode cX6_draw 41 = .ok (.getfield 48, 3) := by decide +kernel
theorem dX6_draw_44 : decode cX6_draw 44 = .ok (.iconst 1, 1) := by decide +kernel
theorem dX6_draw_45 : decode cX6_draw 45 = .ok (.iadd, 1) := by decide +kernel
theorem dX6_draw_46 : decode cX6_draw 46 = .ok (.putfield 48, 3) := by decide +kernel
theorem dX6_draw_49 : decode cX6_draw 49 = .ok (.iload_n 2, 1) := by decide +kernel
theorem dX6_draw_50 : decode cX6_draw 50 = .ok (.ireturn, 1) := by decide +kernel
theorem dX6_owner_0 : decode cX6_owner 0 = .ok (.bipush 11, 2) := by decide +kernel
theorem dX6_owner_2 : decode cX6_owner 2 = .ok (.newarray .int, 2) := by decide +kernel
theorem dX6_owner_4 : decode cX6_owner 4 = .ok (.dup, 1) := by decide +kernel
theorem dX6_owner_5 : decode cX6_owner 5 = .ok (.iconst 0, 1) := by decide +kernel
theorem dX6_owner_6 : decode cX6_owner 6 = .ok (.iload_n 1, 1) := by decide +kernel
theorem dX6_owner_7 : decode cX6_owner 7 = .ok (.iastore, 1) := by decide +kernel
theorem dX6_owner_8 : decode cX6_owner 8 = .ok (.dup, 1) := by decide +kernel
theorem dX6_owner_9 : decode cX6_owner 9 = .ok (.iconst 1, 1) := by decide +kernel
theorem dX6_owner_10 : decode cX6_owner 10 = .ok (.iload_n 2, 1) := by decide +kernel
theorem dX6_owner_11 : decode cX6_owner 11 = .ok (.iastore, 1) := by decide +kernel
theorem dX6_owner_12 : decode cX6_owner 12 = .ok (.dup, 1) := by decide +kernel
theorem dX6_owner_13 : decode cX6_owner 13 = .ok (.iconst 2, 1) := by decide +kernel
theorem dX6_owner_14 : decode cX6_owner 14 = .ok (.iload_n 3, 1) := by decide +kernel
theorem dX6_owner_15 : decode cX6_owner 15 = .ok (.iastore, 1) := by decide +kernel
theorem dX6_owner_16 : decode cX6_owner 16 = .ok (.dup, 1) := by decide +kernel
theorem dX6_owner_17 : decode cX6_owner 17 = .ok (.iconst 3, 1) := by decide +kernel
theorem dX6_owner_18 : decode cX6_owner 18 = .ok (.iload 4, 2) := by decide +kernel
theorem dX6_owner_20 : decode cX6_owner 20 = .ok (.iastore, 1) := by decide +kernel
theorem dX6_owner_21 : decode cX6_owner 21 = .ok (.dup, 1) := by decide +kernel
theorem dX6_owner_22 : decode cX6_owner 22 = .ok (.iconst 4, 1) := by decide +kernel
theorem dX6_owner_23 : decode cX6_owner 23 = .ok (.bipush 50, 2) := by decide +kernel
theorem dX6_owner_25 : decode cX6_owner 25 = .ok (.iastore, 1) := by decide +kernel
theorem dX6_owner_26 : decode cX6_owner 26 = .ok (.dup, 1) := by decide +kernel
theorem dX6_owner_27 : decode cX6_owner 27 = .ok (.iconst 5, 1) := by decide +kernel
theorem dX6_owner_28 : decode cX6_owner 28 = .ok (.iconst 0, 1) := by decide +kernel
theorem dX6_owner_29 : decode cX6_owner 29 = .ok (.iastore, 1) := by decide +kernel
theorem dX6_owner_30 : decode cX6_owner 30 = .ok (.dup, 1) := by decide +kernel
theorem dX6_owner_31 : decode cX6_owner 31 = .ok (.bipush 6, 2) := by decide +kernel
theorem dX6_owner_33 : decode cX6_owner 33 = .ok (.iconst 0, 1) := by decide +kernel
theorem dX6_owner_34 : decode cX6_owner 34 = .ok (.iastore, 1) := by decide +kernel
theorem dX6_owner_35 : decode cX6_owner 35 = .ok (.dup, 1) := by decide +kernel
theorem dX6_owner_36 : decode cX6_owner 36 = .ok (.bipush 7, 2) := by decide +kernel
theorem dX6_owner_38 : decode cX6_owner 38 = .ok (.iconst 0, 1) := by decide +kernel
theorem dX6_owner_39 : decode cX6_owner 39 = .ok (.iastore, 1) := by decide +kernel
theorem dX6_owner_40 : decode cX6_owner 40 = .ok (.dup, 1) := by decide +kernel
theorem dX6_owner_41 : decode cX6_owner 41 = .ok (.bipush 8, 2) := by decide +kernel
theorem dX6_owner_43 : decode cX6_owner 43 = .ok (.iconst 0, 1) := by decide +kernel
theorem dX6_owner_44 : decode cX6_owner 44 = .ok (.iastore, 1) := by decide +kernel
theorem dX6_owner_45 : decode cX6_owner 45 = .ok (.dup, 1) := by decide +kernel
theorem dX6_owner_46 : decode cX6_owner 46 = .ok (.bipush 9, 2) := by decide +kernel
theorem dX6_owner_48 : decode cX6_owner 48 = .ok (.iconst 0, 1) := by decide +kernel
theorem dX6_owner_49 : decode cX6_owner 49 = .ok (.iastore, 1) := by decide +kernel
theorem dX6_owner_50 : decode cX6_owner 50 = .ok (.dup, 1) := by decide +kernel
theorem dX6_owner_51 : decode cX6_owner 51 = .ok (.bipush 10, 2) := by decide +kernel
theorem dX6_owner_53 : decode cX6_owner 53 = .ok (.iconst 0, 1) := by decide +kernel
theorem dX6_owner_54 : decode cX6_owner 54 = .ok (.iastore, 1) := by decide +kernel
theorem dX6_owner_55 : decode cX6_owner 55 = .ok (.astore 5, 2) := by decide +kernel
theorem dX6_owner_57 : decode cX6_owner 57 = .ok (.aload_n 0, 1) := by decide +kernel
theorem dX6_owner_58 : decode cX6_owner 58 = .ok (.getfield 18, 3) := by decide +kernel
theorem dX6_owner_61 : decode cX6_owner 61 = .ok (.aload_n 0, 1) := by decide +kernel
theorem dX6_owner_62 : decode cX6_owner 62 = .ok (.getfield 67, 3) := by decide +kernel
theorem dX6_owner_65 : decode cX6_owner 65 = .ok (.aload 5, 2) := by decide +kernel
theorem dX6_owner_67 : decode cX6_owner 67 = .ok (.aastore, 1) := by decide +kernel
theorem dX6_owner_68 : decode cX6_owner 68 = .ok (.aload_n 0, 1) := by decide +kernel
theorem dX6_owner_69 : decode cX6_owner 69 = .ok (.getfield 21, 3) := by decide +kernel
theorem dX6_owner_72 : decode cX6_owner 72 = .ok (.arraylength, 1) := by decide +kernel
theorem dX6_owner_73 : decode cX6_owner 73 = .ok (.iconst 1, 1) := by decide +kernel
theorem dX6_owner_74 : decode cX6_owner 74 = .ok (.iadd, 1) := by decide +kernel
theorem dX6_owner_75 : decode cX6_owner 75 = .ok (.newarray .int, 2) := by decide +kernel
theorem dX6_owner_77 : decode cX6_owner 77 = .ok (.astore 6, 2) := by decide +kernel
theorem dX6_owner_79 : decode cX6_owner 79 = .ok (.aload_n 0, 1) := by decide +kernel
theorem dX6_owner_80 : decode cX6_owner 80 = .ok (.getfield 21, 3) := by decide +kernel
theorem dX6_owner_83 : decode cX6_owner 83 = .ok (.iconst 0, 1) := by decide +kernel
theorem dX6_owner_84 : decode cX6_owner 84 = .ok (.aload 6, 2) := by decide +kernel
theorem dX6_owner_86 : decode cX6_owner 86 = .ok (.iconst 0, 1) := by decide +kernel
theorem dX6_owner_87 : decode cX6_owner 87 = .ok (.aload_n 0, 1) := by decide +kernel
theorem dX6_owner_88 : decode cX6_owner 88 = .ok (.getfield 21, 3) := by decide +kernel
theorem dX6_owner_91 : decode cX6_owner 91 = .ok (.arraylength, 1) := by decide +kernel
theorem dX6_owner_92 : decode cX6_owner 92 = .ok (.invokestatic 61, 3) := by decide +kernel
theorem dX6_owner_95 : decode cX6_owner 95 = .ok (.aload 6, 2) := by decide +kernel
theorem dX6_owner_97 : decode cX6_owner 97 = .ok (.aload_n 0, 1) := by decide +kernel
theorem dX6_owner_98 : decode cX6_owner 98 = .ok (.getfield 21, 3) := by decide +kernel
theorem dX6_owner_101 : decode cX6_owner 101 = .ok (.arraylength, 1) := by decide +kernel
theorem dX6_owner_102 : decode cX6_owner 102 = .ok (.aload_n 0, 1) := by decide +kernel
theorem dX6_owner_103 : decode cX6_owner 103 = .ok (.dup, 1) := by decide +kernel
theorem dX6_owner_104 : decode cX6_owner 104 = .ok (.getfield 67, 3) := by decide +kernel
theorem dX6_owner_107 : decode cX6_owner 107 = .ok (.dup_x1, 1) := by decide +kernel
theorem dX6_owner_108 : decode cX6_owner 108 = .ok (.iconst 1, 1) := by decide +kernel
theorem dX6_owner_109 : decode cX6_owner 109 = .ok (.iadd, 1) := by decide +kernel
theorem dX6_owner_110 : decode cX6_owner 110 = .ok (.putfield 67, 3) := by decide +kernel
theorem dX6_owner_113 : decode cX6_owner 113 = .ok (.iastore, 1) := by decide +kernel
theorem dX6_owner_114 : decode cX6_owner 114 = .ok (.aload_n 0, 1) := by decide +kernel
theorem dX6_owner_115 : decode cX6_owner 115 = .ok (.aload 6, 2) := by decide +kernel
theorem dX6_owner_117 : decode cX6_owner 117 = .ok (.putfield 21, 3) := by decide +kernel
theorem dX6_owner_120 : decode cX6_owner 120 = .ok (.aload_n 0, 1) := by decide +kernel
theorem dX6_owner_121 : decode cX6_owner 121 = .ok (.getfield 10, 3) := by decide +kernel
theorem dX6_owner_124 : decode cX6_owner 124 = .ok (.iload_n 1, 1) := by decide +kernel
theorem dX6_owner_125 : decode cX6_owner 125 = .ok (.iload_n 2, 1) := by decide +kernel
theorem dX6_owner_126 : decode cX6_owner 126 = .ok (.iload_n 3, 1) := by decide +kernel
theorem dX6_owner_127 : decode cX6_owner 127 = .ok (.iload 4, 2) := by decide +kernel
theorem dX6_owner_129 : decode cX6_owner 129 = .ok (.invokevirtual 70, 3) := by decide +kernel
theorem dX6_owner_132 : decode cX6_owner 132 = .ok (.aload_n 0, 1) := by decide +kernel
theorem dX6_owner_133 : decode cX6_owner 133 = .ok (.getfield 67, 3) := by decide +kernel
theorem dX6_owner_136 : decode cX6_owner 136 = .ok (.iconst 1, 1) := by decide +kernel
theorem dX6_owner_137 : decode cX6_owner 137 = .ok (.isub, 1) := by decide +kernel
theorem dX6_owner_138 : decode cX6_owner 138 = .ok (.if_icmp .ne 7, 3) := by decide +kernel
theorem dX6_owner_141 : decode cX6_owner 141 = .ok (.iconst 1, 1) := by decide +kernel
theorem dX6_owner_142 : decode cX6_owner 142 = .ok (.goto 4, 3) := by decide +kernel
theorem dX6_owner_145 : decode cX6_owner 145 = .ok (.iconst 0, 1) := by decide +kernel
theorem dX6_owner_146 : decode cX6_owner 146 = .ok (.ireturn, 1) := by decide +kernel
theorem dX6_found_0 : decode cX6_found 0 = .ok (.iconst 0, 1) := by decide +kernel
theorem dX6_found_1 : decode cX6_found 1 = .ok (.istore_n 2, 1) := by decide +kernel
theorem dX6_found_2 : decode cX6_found 2 = .ok (.iload_n 2, 1) := by decide +kernel
theorem dX6_found_3 : decode cX6_found 3 = .ok (.iload_n 1, 1) := by decide +kernel
theorem dX6_found_4 : decode cX6_found 4 = .ok (.if_icmp .ge 46, 3) := by decide +kernel
theorem dX6_found_7 : decode cX6_found 7 = .ok (.aload_n 0, 1) := by decide +kernel
theorem dX6_found_8 : decode cX6_found 8 = .ok (.bipush 100, 2) := by decide +kernel
theorem dX6_found_10 : decode cX6_found 10 = .ok (.aload_n 0, 1) := by decide +kernel
theorem dX6_found_11 : decode cX6_found 11 = .ok (.sipush 1000, 3) := by decide +kernel
theorem dX6_found_14 : decode cX6_found 14 = .ok (.invokevirtual 110, 3) := by decide +kernel
theorem dX6_found_17 : decode cX6_found 17 = .ok (.iadd, 1) := by decide +kernel
theorem dX6_found_18 : decode cX6_found 18 = .ok (.aload_n 0, 1) := by decide +kernel
theorem dX6_found_19 : decode cX6_found 19 = .ok (.sipush 200, 3) := by decide +kernel
theorem dX6_found_22 : decode cX6_found 22 = .ok (.invokevirtual 110, 3) := by decide +kernel
theorem dX6_found_25 : decode cX6_found 25 = .ok (.aload_n 0, 1) := by decide +kernel
theorem dX6_found_26 : decode cX6_found 26 = .ok (.bipush 40, 2) := by decide +kernel
theorem dX6_found_28 : decode cX6_found 28 = .ok (.invokevirtual 110, 3) := by decide +kernel
theorem dX6_found_31 : decode cX6_found 31 = .ok (.aload_n 0, 1) := by decide +kernel
theorem dX6_found_32 : decode cX6_found 32 = .ok (.iconst 4, 1) := by decide +kernel
theorem dX6_found_33 : decode cX6_found 33 = .ok (.invokevirtual 110, 3) := by decide +kernel
theorem dX6_found_36 : decode cX6_found 36 = .ok (.invokevirtual 113, 3) := by decide +kernel
theorem dX6_found_39 : decode cX6_found 39 = .ok (.ifCond .ne 5, 3) := by decide +kernel
theorem dX6_found_42 : decode cX6_found 42 = .ok (.iconst 0, 1) := by decide +kernel
theorem dX6_found_43 : decode cX6_found 43 = .ok (.ireturn, 1) := by decide +kernel
theorem dX6_found_44 : decode cX6_found 44 = .ok (.iinc 2 1, 3) := by decide +kernel
theorem dX6_found_47 : decode cX6_found 47 = .ok (.goto (-45), 3) := by decide +kernel
theorem dX6_found_50 : decode cX6_found 50 = .ok (.iconst 1, 1) := by decide +kernel
theorem dX6_found_51 : decode cX6_found 51 = .ok (.ireturn, 1) := by decide +kernel
theorem dL_below_0 : decode cL_below 0 = .ok (.iload_n 0, 1) := by decide +kernel
theorem dL_below_1 : decode cL_below 1 = .ok (.ldc 7, 2) := by decide +kernel
theorem dL_below_3 : decode cL_below 3 = .ok (.iand, 1) := by decide +kernel
theorem dL_below_4 : decode cL_below 4 = .ok (.iload_n 1, 1) := by decide +kernel
theorem dL_below_5 : decode cL_below 5 = .ok (.irem, 1) := by decide +kernel
theorem dL_below_6 : decode cL_below 6 = .ok (.ireturn, 1) := by decide +kernel
theorem dL_cell_0 : decode cL_cell 0 = .ok (.iload_n 1, 1) := by decide +kernel
theorem dL_cell_1 : decode cL_cell 1 = .ok (.aload_n 0, 1) := by decide +kernel
theorem dL_cell_2 : decode cL_cell 2 = .ok (.arraylength, 1) := by decide +kernel
theorem dL_cell_3 : decode cL_cell 3 = .ok (.if_icmp .ge 9, 3) := by decide +kernel
theorem dL_cell_6 : decode cL_cell 6 = .ok (.aload_n 0, 1) := by decide +kernel
theorem dL_cell_7 : decode cL_cell 7 = .ok (.iload_n 1, 1) := by decide +kernel
theorem dL_cell_8 : decode cL_cell 8 = .ok (.iaload, 1) := by decide +kernel
theorem dL_cell_9 : decode cL_cell 9 = .ok (.goto 9, 3) := by decide +kernel
theorem dL_cell_12 : decode cL_cell 12 = .ok (.ldc 8, 2) := by decide +kernel
theorem dL_cell_14 : decode cL_cell 14 = .ok (.iload_n 1, 1) := by decide +kernel
theorem dL_cell_15 : decode cL_cell 15 = .ok (.iconst 3, 1) := by decide +kernel
theorem dL_cell_16 : decode cL_cell 16 = .ok (.iadd, 1) := by decide +kernel
theorem dL_cell_17 : decode cL_cell 17 = .ok (.imul, 1) := by decide +kernel
theorem dL_cell_18 : decode cL_cell 18 = .ok (.ireturn, 1) := by decide +kernel
theorem dL_law_0 : decode cL_law 0 = .ok (.iconst 0, 1) := by decide +kernel
theorem dL_law_1 : decode cL_law 1 = .ok (.istore_n 1, 1) := by decide +kernel
theorem dL_law_2 : decode cL_law 2 = .ok (.iload_n 1, 1) := by decide +kernel
theorem dL_law_3 : decode cL_law 3 = .ok (.iconst 3, 1) := by decide +kernel
theorem dL_law_4 : decode cL_law 4 = .ok (.if_icmp .ge 692, 3) := by decide +kernel
theorem dL_law_7 : decode cL_law 7 = .ok (.new 9, 3) := by decide +kernel
theorem dL_law_10 : decode cL_law 10 = .ok (.dup, 1) := by decide +kernel
theorem dL_law_11 : decode cL_law 11 = .ok (.aload_n 0, 1) := by decide +kernel
theorem dL_law_12 : decode cL_law 12 = .ok (.bipush 31, 2) := by decide +kernel
theorem dL_law_14 : decode cL_law 14 = .ok (.iload_n 1, 1) := by decide +kernel
theorem dL_law_15 : decode cL_law 15 = .ok (.imul, 1) := by decide +kernel
theorem dL_law_16 : decode cL_law 16 = .ok (.bipush 7, 2) := by decide +kernel
theorem dL_law_18 : decode cL_law 18 = .ok (.iadd, 1) := by decide +kernel
theorem dL_law_19 : decode cL_law 19 = .ok (.invokespecial 11, 3) := by decide +kernel
theorem dL_law_22 : decode cL_law 22 = .ok (.astore_n 2, 1) := by decide +kernel
theorem dL_law_23 : decode cL_law 23 = .ok (.new 9, 3) := by decide +kernel
theorem dL_law_26 : decode cL_law 26 = .ok (.dup, 1) := by decide +kernel
theorem dL_law_27 : decode cL_law 27 = .ok (.aload_n 0, 1) := by decide +kernel
theorem dL_law_28 : decode cL_law 28 = .ok (.bipush 31, 2) := by decide +kernel
theorem dL_law_30 : decode cL_law 30 = .ok (.iload_n 1, 1) := by decide +kernel
theorem dL_law_31 : decode cL_law 31 = .ok (.imul, 1) := by decide +kernel
theorem dL_law_32 : decode cL_law 32 = .ok (.bipush 7, 2) := by decide +kernel
theorem dL_law_34 : decode cL_law 34 = .ok (.iadd, 1) := by decide +kernel
theorem dL_law_35 : decode cL_law 35 = .ok (.invokespecial 11, 3) := by decide +kernel
theorem dL_law_38 : decode cL_law 38 = .ok (.astore_n 3, 1) := by decide +kernel
theorem dL_law_39 : decode cL_law 39 = .ok (.aload_n 2, 1) := by decide +kernel
theorem dL_law_40 : decode cL_law 40 = .ok (.getfield 14, 3) := by decide +kernel
theorem dL_law_43 : decode cL_law 43 = .ok (.astore 4, 2) := by decide +kernel
theorem dL_law_45 : decode cL_law 45 = .ok (.aload_n 2, 1) := by decide +kernel
theorem dL_law_46 : decode cL_law 46 = .ok (.iconst 4, 1) := by decide +kernel
theorem dL_law_47 : decode cL_law 47 = .ok (.invokevirtual 18, 3) := by decide +kernel
theorem dL_law_50 : decode cL_law 50 = .ok (.ifCond .eq 11, 3) := by decide +kernel
theorem dL_law_53 : decode cL_law 53 = .ok (.aload_n 3, 1) := by decide +kernel
theorem dL_law_54 : decode cL_law 54 = .ok (.iconst 4, 1) := by decide +kernel
theorem dL_law_55 : decode cL_law 55 = .ok (.invokevirtual 18, 3) := by decide +kernel
theorem dL_law_58 : decode cL_law 58 = .ok (.ifCond .ne 5, 3) := by decide +kernel
theorem dL_law_61 : decode cL_law 61 = .ok (.iconst 0, 1) := by decide +kernel
theorem dL_law_62 : decode cL_law 62 = .ok (.ireturn, 1) := by decide +kernel
theorem dL_law_63 : decode cL_law 63 = .ok (.iconst 0, 1) := by decide +kernel
theorem dL_law_64 : decode cL_law 64 = .ok (.istore 5, 2) := by decide +kernel
theorem dL_law_66 : decode cL_law 66 = .ok (.iload 5, 2) := by decide +kernel
theorem dL_law_68 : decode cL_law 68 = .ok (.bipush 7, 2) := by decide +kernel
theorem dL_law_70 : decode cL_law 70 = .ok (.if_icmp .ge 418, 3) := by decide +kernel
theorem dL_law_73 : decode cL_law 73 = .ok (.aload_n 2, 1) := by decide +kernel
theorem dL_law_74 : decode cL_law 74 = .ok (.iconst 4, 1) := by decide +kernel
theorem dL_law_75 : decode cL_law 75 = .ok (.invokevirtual 22, 3) := by decide +kernel
theorem dL_law_78 : decode cL_law 78 = .ok (.istore 6, 2) := by decide +kernel
theorem dL_law_80 : decode cL_law 80 = .ok (.iload 6, 2) := by decide +kernel
theorem dL_law_82 : decode cL_law 82 = .ok (.iconst 1, 1) := by decide +kernel
theorem dL_law_83 : decode cL_law 83 = .ok (.iadd, 1) := by decide +kernel
theorem dL_law_84 : decode cL_law 84 = .ok (.aload_n 2, 1) := by decide +kernel
theorem dL_law_85 : decode cL_law 85 = .ok (.iconst 3, 1) := by decide +kernel
theorem dL_law_86 : decode cL_law 86 = .ok (.invokevirtual 22, 3) := by decide +kernel
theorem dL_law_89 : decode cL_law 89 = .ok (.iadd, 1) := by decide +kernel
theorem dL_law_90 : decode cL_law 90 = .ok (.iconst 4, 1) := by decide +kernel
theorem dL_law_91 : decode cL_law 91 = .ok (.irem, 1) := by decide +kernel
theorem dL_law_92 : decode cL_law 92 = .ok (.istore 7, 2) := by decide +kernel
theorem dL_law_94 : decode cL_law 94 = .ok (.aload_n 2, 1) := by decide +kernel
theorem dL_law_95 : decode cL_law 95 = .ok (.bipush 60, 2) := by decide +kernel
theorem dL_law_97 : decode cL_law 97 = .ok (.invokevirtual 22, 3) := by decide +kernel
theorem dL_law_100 : decode cL_law 100 = .ok (.istore 8, 2) := by decide +kernel
theorem dL_law_102 : decode cL_law 102 = .ok (.iconst 1, 1) := by decide +kernel
theorem dL_law_103 : decode cL_law 103 = .ok (.aload_n 2, 1) := by decide +kernel
theorem dL_law_104 : decode cL_law 104 = .ok (.bipush 9, 2) := by decide +kernel
theorem dL_law_106 : decode cL_law 106 = .ok (.invokevirtual 22, 3) := by decide +kernel
theorem dL_law_109 : decode cL_law 109 = .ok (.iadd, 1) := by decide +kernel
theorem dL_law_110 : decode cL_law 110 = .ok (.istore 9, 2) := by decide +kernel
theorem dL_law_112 : decode cL_law 112 = .ok (.iconst 1, 1) := by decide +kernel
theorem dL_law_113 : decode cL_law 113 = .ok (.aload_n 2, 1) := by decide +kernel
theorem dL_law_114 : decode cL_law 114 = .ok (.bipush 20, 2) := by decide +kernel
theorem dL_law_116 : decode cL_law 116 = .ok (.invokevirtual 22, 3) := by decide +kernel
theorem dL_law_119 : decode cL_law 119 = .ok (.iadd, 1) := by decide +kernel
theorem dL_law_120 : decode cL_law 120 = .ok (.istore 10, 2) := by decide +kernel
theorem dL_law_122 : decode cL_law 122 = .ok (.iconst 1, 1) := by decide +kernel
theorem dL_law_123 : decode cL_law 123 = .ok (.aload_n 2, 1) := by decide +kernel
theorem dL_law_124 : decode cL_law 124 = .ok (.sipush 200, 3) := by decide +kernel
theorem dL_law_127 : decode cL_law 127 = .ok (.invokevirtual 22, 3) := by decide +kernel
theorem dL_law_130 : decode cL_law 130 = .ok (.iadd, 1) := by decide +kernel
theorem dL_law_131 : decode cL_law 131 = .ok (.istore 11, 2) := by decide +kernel
theorem dL_law_133 : decode cL_law 133 = .ok (.aload 4, 2) := by decide +kernel
theorem dL_law_135 : decode cL_law 135 = .ok (.iload 6, 2) := by decide +kernel
theorem dL_law_137 : decode cL_law 137 = .ok (.iload 10, 2) := by decide +kernel
theorem dL_law_139 : decode cL_law 139 = .ok (.invokevirtual 26, 3) := by decide +kernel
theorem dL_law_142 : decode cL_law 142 = .ok (.aload_n 3, 1) := by decide +kernel
theorem dL_law_143 : decode cL_law 143 = .ok (.getfield 14, 3) := by decide +kernel
theorem dL_law_146 : decode cL_law 146 = .ok (.iload 6, 2) := by decide +kernel
theorem dL_law_148 : decode cL_law 148 = .ok (.iload 10, 2) := by decide +kernel
theorem dL_law_150 : decode cL_law 150 = .ok (.invokevirtual 26, 3) := by decide +kernel
theorem dL_law_153 : decode cL_law 153 = .ok (.if_icmp .ne 73, 3) := by decide +kernel
theorem dL_law_156 : decode cL_law 156 = .ok (.aload 4, 2) := by decide +kernel
theorem dL_law_158 : decode cL_law 158 = .ok (.iload 6, 2) := by decide +kernel
theorem dL_law_160 : decode cL_law 160 = .ok (.iload 7, 2) := by decide +kernel
theorem dL_law_162 : decode cL_law 162 = .ok (.iload 11, 2) := by decide +kernel
theorem dL_law_164 : decode cL_law 164 = .ok (.iconst 0, 1) := by decide +kernel
theorem dL_law_165 : decode cL_law 165 = .ok (.invokevirtual 32, 3) := by decide +kernel
theorem dL_law_168 : decode cL_law 168 = .ok (.aload_n 3, 1) := by decide +kernel
theorem dL_law_169 : decode cL_law 169 = .ok (.getfield 14, 3) := by decide +kernel
theorem dL_law_172 : decode cL_law 172 = .ok (.iload 6, 2) := by decide +kernel
theorem dL_law_174 : decode cL_law 174 = .ok (.iload 7, 2) := by decide +kernel
theorem dL_law_176 : decode cL_law 176 = .ok (.iload 11, 2) := by decide +kernel
theorem dL_law_178 : decode cL_law 178 = .ok (.iconst 0, 1) := by decide +kernel
theorem dL_law_179 : decode cL_law 179 = .ok (.invokevirtual 32, 3) := by decide +kernel
theorem dL_law_182 : decode cL_law 182 = .ok (.if_icmp .ne 44, 3) := by decide +kernel
theorem dL_law_185 : decode cL_law 185 = .ok (.aload 4, 2) := by decide +kernel
theorem dL_law_187 : decode cL_law 187 = .ok (.bipush 10, 2) := by decide +kernel
theorem dL_law_189 : decode cL_law 189 = .ok (.invokevirtual 36, 3) := by decide +kernel
theorem dL_law_192 : decode cL_law 192 = .ok (.bipush 8, 2) := by decide +kernel
theorem dL_law_194 : decode cL_law 194 = .ok (.if_icmp .ge 34, 3) := by decide +kernel
theorem dL_law_197 : decode cL_law 197 = .ok (.aload 4, 2) := by decide +kernel
theorem dL_law_199 : decode cL_law 199 = .ok (.iload 7, 2) := by decide +kernel
theorem dL_law_201 : decode cL_law 201 = .ok (.iload 6, 2) := by decide +kernel
theorem dL_law_203 : decode cL_law 203 = .ok (.iload 11, 2) := by decide +kernel
theorem dL_law_205 : decode cL_law 205 = .ok (.iconst 2, 1) := by decide +kernel
theorem dL_law_206 : decode cL_law 206 = .ok (.invokevirtual 39, 3) := by decide +kernel
theorem dL_law_209 : decode cL_law 209 = .ok (.aload_n 3, 1) := by decide +kernel
theorem dL_law_210 : decode cL_law 210 = .ok (.getfield 14, 3) := by decide +kernel
theorem dL_law_213 : decode cL_law 213 = .ok (.iload 7, 2) := by decide +kernel
theorem dL_law_215 : decode cL_law 215 = .ok (.iload 6, 2) := by decide +kernel
theorem dL_law_217 : decode cL_law 217 = .ok (.iload 11, 2) := by decide +kernel
theorem dL_law_219 : decode cL_law 219 = .ok (.iconst 2, 1) := by decide +kernel
theorem dL_law_220 : decode cL_law 220 = .ok (.invokevirtual 39, 3) := by decide +kernel
theorem dL_law_223 : decode cL_law 223 = .ok (.if_icmp .eq 5, 3) := by decide +kernel
theorem dL_law_226 : decode cL_law 226 = .ok (.iconst 0, 1) := by decide +kernel
theorem dL_law_227 : decode cL_law 227 = .ok (.ireturn, 1) := by decide +kernel
theorem dL_law_228 : decode cL_law 228 = .ok (.aload 4, 2) := by decide +kernel
theorem dL_law_230 : decode cL_law 230 = .ok (.invokevirtual 42, 3) := by decide +kernel
theorem dL_law_233 : decode cL_law 233 = .ok (.lstore 12, 2) := by decide +kernel
theorem dL_law_235 : decode cL_law 235 = .ok (.aload 4, 2) := by decide +kernel
theorem dL_law_237 : decode cL_law 237 = .ok (.iload 6, 2) := by decide +kernel
theorem dL_law_239 : decode cL_law 239 = .ok (.iload 8, 2) := by decide +kernel
theorem dL_law_241 : decode cL_law 241 = .ok (.iload 9, 2) := by decide +kernel
theorem dL_law_243 : decode cL_law 243 = .ok (.invokevirtual 46, 3) := by decide +kernel
theorem dL_law_246 : decode cL_law 246 = .ok (.istore 14, 2) := by decide +kernel
theorem dL_law_248 : decode cL_law 248 = .ok (.aload 4, 2) := by decide +kernel
theorem dL_law_250 : decode cL_law 250 = .ok (.iload 8, 2) := by decide +kernel
theorem dL_law_252 : decode cL_law 252 = .ok (.iload 9, 2) := by decide +kernel
theorem dL_law_254 : decode cL_law 254 = .ok (.invokevirtual 50, 3) := by decide +kernel
theorem dL_law_257 : decode cL_law 257 = .ok (.istore 15, 2) := by decide +kernel
theorem dL_law_259 : decode cL_law 259 = .ok (.aload_n 2, 1) := by decide +kernel
theorem dL_law_260 : decode cL_law 260 = .ok (.bipush 21, 2) := by decide +kernel
theorem dL_law_262 : decode cL_law 262 = .ok (.invokevirtual 22, 3) := by decide +kernel
theorem dL_law_265 : decode cL_law 265 = .ok (.istore 16, 2) := by decide +kernel
theorem dL_law_267 : decode cL_law 267 = .ok (.aload 4, 2) := by decide +kernel
theorem dL_law_269 : decode cL_law 269 = .ok (.iload 16, 2) := by decide +kernel
theorem dL_law_271 : decode cL_law 271 = .ok (.iload 8, 2) := by decide +kernel
theorem dL_law_273 : decode cL_law 273 = .ok (.iload 9, 2) := by decide +kernel
theorem dL_law_275 : decode cL_law 275 = .ok (.invokevirtual 53, 3) := by decide +kernel
theorem dL_law_278 : decode cL_law 278 = .ok (.istore 17, 2) := by decide +kernel
theorem dL_law_280 : decode cL_law 280 = .ok (.aload 4, 2) := by decide +kernel
theorem dL_law_282 : decode cL_law 282 = .ok (.iload 6, 2) := by decide +kernel
theorem dL_law_284 : decode cL_law 284 = .ok (.iload 8, 2) := by decide +kernel
theorem dL_law_286 : decode cL_law 286 = .ok (.invokevirtual 56, 3) := by decide +kernel
theorem dL_law_289 : decode cL_law 289 = .ok (.istore 18, 2) := by decide +kernel
theorem dL_law_291 : decode cL_law 291 = .ok (.aload 4, 2) := by decide +kernel
theorem dL_law_293 : decode cL_law 293 = .ok (.invokevirtual 42, 3) := by decide +kernel
theorem dL_law_296 : decode cL_law 296 = .ok (.lload 12, 2) := by decide +kernel
theorem dL_law_298 : decode cL_law 298 = .ok (.lcmp, 1) := by decide +kernel
theorem dL_law_299 : decode cL_law 299 = .ok (.ifCond .ne 16, 3) := by decide +kernel
theorem dL_law_302 : decode cL_law 302 = .ok (.aload_n 3, 1) := by decide +kernel
theorem dL_law_303 : decode cL_law 303 = .ok (.getfield 14, 3) := by decide +kernel
theorem dL_law_306 : decode cL_law 306 = .ok (.invokevirtual 42, 3) := by decide +kernel
theorem dL_law_309 : decode cL_law 309 = .ok (.lload 12, 2) := by decide +kernel
theorem dL_law_311 : decode cL_law 311 = .ok (.lcmp, 1) := by decide +kernel
theorem dL_law_312 : decode cL_law 312 = .ok (.ifCond .eq 5, 3) := by decide +kernel
theorem dL_law_315 : decode cL_law 315 = .ok (.iconst 0, 1) := by decide +kernel
theorem dL_law_316 : decode cL_law 316 = .ok (.ireturn, 1) := by decide +kernel
theorem dL_law_317 : decode cL_law 317 = .ok (.aload_n 3, 1) := by decide +kernel
theorem dL_law_318 : decode cL_law 318 = .ok (.getfield 14, 3) := by decide +kernel
theorem dL_law_321 : decode cL_law 321 = .ok (.iload 16, 2) := by decide +kernel
theorem dL_law_323 : decode cL_law 323 = .ok (.invokevirtual 59, 3) := by decide +kernel
theorem dL_law_326 : decode cL_law 326 = .ok (.istore 19, 2) := by decide +kernel
theorem dL_law_328 : decode cL_law 328 = .ok (.aload_n 3, 1) := by decide +kernel
theorem dL_law_329 : decode cL_law 329 = .ok (.getfield 14, 3) := by decide +kernel
theorem dL_law_332 : decode cL_law 332 = .ok (.iload 8, 2) := by decide +kernel
theorem dL_law_334 : decode cL_law 334 = .ok (.iload 9, 2) := by decide +kernel
theorem dL_law_336 : decode cL_law 336 = .ok (.invokestatic 62, 3) := by decide +kernel
theorem dL_law_339 : decode cL_law 339 = .ok (.istore 20, 2) := by decide +kernel
theorem dL_law_341 : decode cL_law 341 = .ok (.aload_n 3, 1) := by decide +kernel
theorem dL_law_342 : decode cL_law 342 = .ok (.getfield 14, 3) := by decide +kernel
theorem dL_law_345 : decode cL_law 345 = .ok (.iload 19, 2) := by decide +kernel
theorem dL_law_347 : decode cL_law 347 = .ok (.invokevirtual 59, 3) := by decide +kernel
theorem dL_law_350 : decode cL_law 350 = .ok (.pop, 1) := by decide +kernel
theorem dL_law_351 : decode cL_law 351 = .ok (.aload 4, 2) := by decide +kernel
theorem dL_law_353 : decode cL_law 353 = .ok (.iload 8, 2) := by decide +kernel
theorem dL_law_355 : decode cL_law 355 = .ok (.iload 9, 2) := by decide +kernel
theorem dL_law_357 : decode cL_law 357 = .ok (.invokestatic 62, 3) := by decide +kernel
theorem dL_law_360 : decode cL_law 360 = .ok (.iload 20, 2) := by decide +kernel
theorem dL_law_362 : decode cL_law 362 = .ok (.isub, 1) := by decide +kernel
theorem dL_law_363 : decode cL_law 363 = .ok (.iload 17, 2) := by decide +kernel
theorem dL_law_365 : decode cL_law 365 = .ok (.if_icmp .eq 5, 3) := by decide +kernel
theorem dL_law_368 : decode cL_law 368 = .ok (.iconst 0, 1) := by decide +kernel
theorem dL_law_369 : decode cL_law 369 = .ok (.ireturn, 1) := by decide +kernel
theorem dL_law_370 : decode cL_law 370 = .ok (.aload 4, 2) := by decide +kernel
theorem dL_law_372 : decode cL_law 372 = .ok (.iload 6, 2) := by decide +kernel
theorem dL_law_374 : decode cL_law 374 = .ok (.bipush 13, 2) := by decide +kernel
theorem dL_law_376 : decode cL_law 376 = .ok (.invokevirtual 68, 3) := by decide +kernel
theorem dL_law_379 : decode cL_law 379 = .ok (.istore 21, 2) := by decide +kernel
theorem dL_law_381 : decode cL_law 381 = .ok (.aload 4, 2) := by decide +kernel
theorem dL_law_383 : decode cL_law 383 = .ok (.iload 8, 2) := by decide +kernel
theorem dL_law_385 : decode cL_law 385 = .ok (.iload 9, 2) := by decide +kernel
theorem dL_law_387 : decode cL_law 387 = .ok (.invokevirtual 71, 3) := by decide +kernel
theorem dL_law_390 : decode cL_law 390 = .ok (.istore 22, 2) := by decide +kernel
theorem dL_law_392 : decode cL_law 392 = .ok (.iconst 0, 1) := by decide +kernel
theorem dL_law_393 : decode cL_law 393 = .ok (.istore 23, 2) := by decide +kernel
theorem dL_law_395 : decode cL_law 395 = .ok (.iconst 0, 1) := by decide +kernel
theorem dL_law_396 : decode cL_law 396 = .ok (.istore 24, 2) := by decide +kernel
theorem dL_law_398 : decode cL_law 398 = .ok (.iload 24, 2) := by decide +kernel
theorem dL_law_400 : decode cL_law 400 = .ok (.iload 9, 2) := by decide +kernel
theorem dL_law_402 : decode cL_law 402 = .ok (.if_icmp .ge 24, 3) := by decide +kernel
theorem dL_law_405 : decode cL_law 405 = .ok (.iload 23, 2) := by decide +kernel
theorem dL_law_407 : decode cL_law 407 = .ok (.aload_n 3, 1) := by decide +kernel
theorem dL_law_408 : decode cL_law 408 = .ok (.getfield 14, 3) := by decide +kernel
theorem dL_law_411 : decode cL_law 411 = .ok (.iload 8, 2) := by decide +kernel
theorem dL_law_413 : decode cL_law 413 = .ok (.iconst 1, 1) := by decide +kernel
theorem dL_law_414 : decode cL_law 414 = .ok (.invokevirtual 71, 3) := by decide +kernel
theorem dL_law_417 : decode cL_law 417 = .ok (.iadd, 1) := by decide +kernel
theorem dL_law_418 : decode cL_law 418 = .ok (.istore 23, 2) := by decide +kernel
theorem dL_law_420 : decode cL_law 420 = .ok (.iinc 24 1, 3) := by decide +kernel
theorem dL_law_423 : decode cL_law 423 = .ok (.goto (-25), 3) := by decide +kernel
theorem dL_law_426 : decode cL_law 426 = .ok (.iload 22, 2) := by decide +kernel
theorem dL_law_428 : decode cL_law 428 = .ok (.iload 23, 2) := by decide +kernel
theorem dL_law_430 : decode cL_law 430 = .ok (.if_icmp .ne 36, 3) := by decide +kernel
theorem dL_law_433 : decode cL_law 433 = .ok (.aload 4, 2) := by decide +kernel
theorem dL_law_435 : decode cL_law 435 = .ok (.iload 6, 2) := by decide +kernel
theorem dL_law_437 : decode cL_law 437 = .ok (.bipush 13, 2) := by decide +kernel
theorem dL_law_439 : decode cL_law 439 = .ok (.invokevirtual 68, 3) := by decide +kernel
theorem dL_law_442 : decode cL_law 442 = .ok (.iload 21, 2) := by decide +kernel
theorem dL_law_444 : decode cL_law 444 = .ok (.iload 14, 2) := by decide +kernel
theorem dL_law_446 : decode cL_law 446 = .ok (.iadd, 1) := by decide +kernel
theorem dL_law_447 : decode cL_law 447 = .ok (.if_icmp .ne 19, 3) := by decide +kernel
theorem dL_law_450 : decode cL_law 450 = .ok (.aload 4, 2) := by decide +kernel
theorem dL_law_452 : decode cL_law 452 = .ok (.invokevirtual 42, 3) := by decide +kernel
theorem dL_law_455 : decode cL_law 455 = .ok (.aload_n 3, 1) := by decide +kernel
theorem dL_law_456 : decode cL_law 456 = .ok (.getfield 14, 3) := by decide +kernel
theorem dL_law_459 : decode cL_law 459 = .ok (.invokevirtual 42, 3) := by decide +kernel
theorem dL_law_462 : decode cL_law 462 = .ok (.lcmp, 1) := by decide +kernel
theorem dL_law_463 : decode cL_law 463 = .ok (.ifCond .eq 5, 3) := by decide +kernel
theorem dL_law_466 : decode cL_law 466 = .ok (.iconst 0, 1) := by decide +kernel
theorem dL_law_467 : decode cL_law 467 = .ok (.ireturn, 1) := by decide +kernel
theorem dL_law_468 : decode cL_law 468 = .ok (.iload 15, 2) := by decide +kernel
theorem dL_law_470 : decode cL_law 470 = .ok (.bipush 20, 2) := by decide +kernel
theorem dL_law_472 : decode cL_law 472 = .ok (.if_icmp .gt 8, 3) := by decide +kernel
theorem dL_law_475 : decode cL_law 475 = .ok (.iload 18, 2) := by decide +kernel
theorem dL_law_477 : decode cL_law 477 = .ok (.ifCond .ge 5, 3) := by decide +kernel
theorem dL_law_480 : decode cL_law 480 = .ok (.iconst 0, 1) := by decide +kernel
theorem dL_law_481 : decode cL_law 481 = .ok (.ireturn, 1) := by decide +kernel
theorem dL_law_482 : decode cL_law 482 = .ok (.iinc 5 1, 3) := by decide +kernel
theorem dL_law_485 : decode cL_law 485 = .ok (.goto (-419), 3) := by decide +kernel
theorem dL_law_488 : decode cL_law 488 = .ok (.aload_n 2, 1) := by decide +kernel
theorem dL_law_489 : decode cL_law 489 = .ok (.bipush 50, 2) := by decide +kernel
theorem dL_law_491 : decode cL_law 491 = .ok (.invokevirtual 22, 3) := by decide +kernel
theorem dL_law_494 : decode cL_law 494 = .ok (.istore 5, 2) := by decide +kernel
theorem dL_law_496 : decode cL_law 496 = .ok (.iconst 4, 1) := by decide +kernel
theorem dL_law_497 : decode cL_law 497 = .ok (.newarray .int, 2) := by decide +kernel
theorem dL_law_499 : decode cL_law 499 = .ok (.astore 6, 2) := by decide +kernel
theorem dL_law_501 : decode cL_law 501 = .ok (.iconst 4, 1) := by decide +kernel
theorem dL_law_502 : decode cL_law 502 = .ok (.newarray .int, 2) := by decide +kernel
theorem dL_law_504 : decode cL_law 504 = .ok (.astore 7, 2) := by decide +kernel
theorem dL_law_506 : decode cL_law 506 = .ok (.aload 4, 2) := by decide +kernel
theorem dL_law_508 : decode cL_law 508 = .ok (.bipush 14, 2) := by decide +kernel
theorem dL_law_510 : decode cL_law 510 = .ok (.invokevirtual 36, 3) := by decide +kernel
theorem dL_law_513 : decode cL_law 513 = .ok (.istore 8, 2) := by decide +kernel
theorem dL_law_515 : decode cL_law 515 = .ok (.iconst 0, 1) := by decide +kernel
theorem dL_law_516 : decode cL_law 516 = .ok (.istore 9, 2) := by decide +kernel
theorem dL_law_518 : decode cL_law 518 = .ok (.iconst 0, 1) := by decide +kernel
theorem dL_law_519 : decode cL_law 519 = .ok (.istore 10, 2) := by decide +kernel
theorem dL_law_521 : decode cL_law 521 = .ok (.iload 10, 2) := by decide +kernel
theorem dL_law_523 : decode cL_law 523 = .ok (.iconst 4, 1) := by decide +kernel
theorem dL_law_524 : decode cL_law 524 = .ok (.if_icmp .ge 47, 3) := by decide +kernel
theorem dL_law_527 : decode cL_law 527 = .ok (.aload 6, 2) := by decide +kernel
theorem dL_law_529 : decode cL_law 529 = .ok (.iload 10, 2) := by decide +kernel
theorem dL_law_531 : decode cL_law 531 = .ok (.aload 4, 2) := by decide +kernel
theorem dL_law_533 : decode cL_law 533 = .ok (.iload 10, 2) := by decide +kernel
theorem dL_law_535 : decode cL_law 535 = .ok (.iload 5, 2) := by decide +kernel
theorem dL_law_537 : decode cL_law 537 = .ok (.invokevirtual 56, 3) := by decide +kernel
theorem dL_law_540 : decode cL_law 540 = .ok (.iastore, 1) := by decide +kernel
theorem dL_law_541 : decode cL_law 541 = .ok (.aload 7, 2) := by decide +kernel
theorem dL_law_543 : decode cL_law 543 = .ok (.iload 10, 2) := by decide +kernel
theorem dL_law_545 : decode cL_law 545 = .ok (.aload 4, 2) := by decide +kernel
theorem dL_law_547 : decode cL_law 547 = .ok (.iload 10, 2) := by decide +kernel
theorem dL_law_549 : decode cL_law 549 = .ok (.bipush 6, 2) := by decide +kernel
theorem dL_law_551 : decode cL_law 551 = .ok (.invokevirtual 68, 3) := by decide +kernel
theorem dL_law_554 : decode cL_law 554 = .ok (.iastore, 1) := by decide +kernel
theorem dL_law_555 : decode cL_law 555 = .ok (.iload 9, 2) := by decide +kernel
theorem dL_law_557 : decode cL_law 557 = .ok (.aload 6, 2) := by decide +kernel
theorem dL_law_559 : decode cL_law 559 = .ok (.iload 10, 2) := by decide +kernel
theorem dL_law_561 : decode cL_law 561 = .ok (.iaload, 1) := by decide +kernel
theorem dL_law_562 : decode cL_law 562 = .ok (.iadd, 1) := by decide +kernel
theorem dL_law_563 : decode cL_law 563 = .ok (.istore 9, 2) := by decide +kernel
theorem dL_law_565 : decode cL_law 565 = .ok (.iinc 10 1, 3) := by decide +kernel
theorem dL_law_568 : decode cL_law 568 = .ok (.goto (-47), 3) := by decide +kernel
theorem dL_law_571 : decode cL_law 571 = .ok (.sipush 130, 3) := by decide +kernel
theorem dL_law_574 : decode cL_law 574 = .ok (.aload 4, 2) := by decide +kernel
theorem dL_law_576 : decode cL_law 576 = .ok (.iconst 1, 1) := by decide +kernel
theorem dL_law_577 : decode cL_law 577 = .ok (.invokevirtual 36, 3) := by decide +kernel
theorem dL_law_580 : decode cL_law 580 = .ok (.isub, 1) := by decide +kernel
theorem dL_law_581 : decode cL_law 581 = .ok (.istore 10, 2) := by decide +kernel
theorem dL_law_583 : decode cL_law 583 = .ok (.iload 10, 2) := by decide +kernel
theorem dL_law_585 : decode cL_law 585 = .ok (.bipush 70, 2) := by decide +kernel
theorem dL_law_587 : decode cL_law 587 = .ok (.if_icmp .le 11, 3) := by decide +kernel
theorem dL_law_590 : decode cL_law 590 = .ok (.iload 10, 2) := by decide +kernel
theorem dL_law_592 : decode cL_law 592 = .ok (.bipush 70, 2) := by decide +kernel
theorem dL_law_594 : decode cL_law 594 = .ok (.isub, 1) := by decide +kernel
theorem dL_law_595 : decode cL_law 595 = .ok (.goto 5, 3) := by decide +kernel
theorem dL_law_598 : decode cL_law 598 = .ok (.iload 10, 2) := by decide +kernel
theorem dL_law_600 : decode cL_law 600 = .ok (.istore 11, 2) := by decide +kernel
theorem dL_law_602 : decode cL_law 602 = .ok (.aload 4, 2) := by decide +kernel
theorem dL_law_604 : decode cL_law 604 = .ok (.iload 5, 2) := by decide +kernel
theorem dL_law_606 : decode cL_law 606 = .ok (.iload 11, 2) := by decide +kernel
theorem dL_law_608 : decode cL_law 608 = .ok (.invokevirtual 71, 3) := by decide +kernel
theorem dL_law_611 : decode cL_law 611 = .ok (.pop, 1) := by decide +kernel
theorem dL_law_612 : decode cL_law 612 = .ok (.aload 4, 2) := by decide +kernel
theorem dL_law_614 : decode cL_law 614 = .ok (.iconst 1, 1) := by decide +kernel
theorem dL_law_615 : decode cL_law 615 = .ok (.invokevirtual 36, 3) := by decide +kernel
theorem dL_law_618 : decode cL_law 618 = .ok (.bipush 60, 2) := by decide +kernel
theorem dL_law_620 : decode cL_law 620 = .ok (.if_icmp .ne 18, 3) := by decide +kernel
theorem dL_law_623 : decode cL_law 623 = .ok (.aload 4, 2) := by decide +kernel
theorem dL_law_625 : decode cL_law 625 = .ok (.bipush 14, 2) := by decide +kernel
theorem dL_law_627 : decode cL_law 627 = .ok (.invokevirtual 36, 3) := by decide +kernel
theorem dL_law_630 : decode cL_law 630 = .ok (.iload 8, 2) := by decide +kernel
theorem dL_law_632 : decode cL_law 632 = .ok (.isub, 1) := by decide +kernel
theorem dL_law_633 : decode cL_law 633 = .ok (.iload 9, 2) := by decide +kernel
theorem dL_law_635 : decode cL_law 635 = .ok (.if_icmp .eq 5, 3) := by decide +kernel
theorem dL_law_638 : decode cL_law 638 = .ok (.iconst 0, 1) := by decide +kernel
theorem dL_law_639 : decode cL_law 639 = .ok (.ireturn, 1) := by decide +kernel
theorem dL_law_640 : decode cL_law 640 = .ok (.iconst 0, 1) := by decide +kernel
theorem dL_law_641 : decode cL_law 641 = .ok (.istore 12, 2) := by decide +kernel
theorem dL_law_643 : decode cL_law 643 = .ok (.iload 12, 2) := by decide +kernel
theorem dL_law_645 : decode cL_law 645 = .ok (.iconst 4, 1) := by decide +kernel
theorem dL_law_646 : decode cL_law 646 = .ok (.if_icmp .ge 34, 3) := by decide +kernel
theorem dL_law_649 : decode cL_law 649 = .ok (.aload 4, 2) := by decide +kernel
theorem dL_law_651 : decode cL_law 651 = .ok (.iload 12, 2) := by decide +kernel
theorem dL_law_653 : decode cL_law 653 = .ok (.bipush 6, 2) := by decide +kernel
theorem dL_law_655 : decode cL_law 655 = .ok (.invokevirtual 68, 3) := by decide +kernel
theorem dL_law_658 : decode cL_law 658 = .ok (.aload 7, 2) := by decide +kernel
theorem dL_law_660 : decode cL_law 660 = .ok (.iload 12, 2) := by decide +kernel
theorem dL_law_662 : decode cL_law 662 = .ok (.iaload, 1) := by decide +kernel
theorem dL_law_663 : decode cL_law 663 = .ok (.aload 6, 2) := by decide +kernel
theorem dL_law_665 : decode cL_law 665 = .ok (.iload 12, 2) := by decide +kernel
theorem dL_law_667 : decode cL_law 667 = .ok (.iaload, 1) := by decide +kernel
theorem dL_law_668 : decode cL_law 668 = .ok (.iadd, 1) := by decide +kernel
theorem dL_law_669 : decode cL_law 669 = .ok (.if_icmp .eq 5, 3) := by decide +kernel
theorem dL_law_672 : decode cL_law 672 = .ok (.iconst 0, 1) := by decide +kernel
theorem dL_law_673 : decode cL_law 673 = .ok (.ireturn, 1) := by decide +kernel
theorem dL_law_674 : decode cL_law 674 = .ok (.iinc 12 1, 3) := by decide +kernel
theorem dL_law_677 : decode cL_law 677 = .ok (.goto (-34), 3) := by decide +kernel
theorem dL_law_680 : decode cL_law 680 = .ok (.aload_n 0, 1) := by decide +kernel
theorem dL_law_681 : decode cL_law 681 = .ok (.iload_n 1, 1) := by decide +kernel
theorem dL_law_682 : decode cL_law 682 = .ok (.invokestatic 74, 3) := by decide +kernel
theorem dL_law_685 : decode cL_law 685 = .ok (.ifCond .ne 5, 3) := by decide +kernel
theorem dL_law_688 : decode cL_law 688 = .ok (.iconst 0, 1) := by decide +kernel
theorem dL_law_689 : decode cL_law 689 = .ok (.ireturn, 1) := by decide +kernel
theorem dL_law_690 : decode cL_law 690 = .ok (.iinc 1 1, 3) := by decide +kernel
theorem dL_law_693 : decode cL_law 693 = .ok (.goto (-691), 3) := by decide +kernel
theorem dL_law_696 : decode cL_law 696 = .ok (.iconst 1, 1) := by decide +kernel
theorem dL_law_697 : decode cL_law 697 = .ok (.ireturn, 1) := by decide +kernel
theorem dL_all_0 : decode cL_all 0 = .ok (.iconst 0, 1) := by decide +kernel
theorem dL_all_1 : decode cL_all 1 = .ok (.istore_n 3, 1) := by decide +kernel
theorem dL_all_2 : decode cL_all 2 = .ok (.iconst 0, 1) := by decide +kernel
theorem dL_all_3 : decode cL_all 3 = .ok (.istore 4, 2) := by decide +kernel
theorem dL_all_5 : decode cL_all 5 = .ok (.iload 4, 2) := by decide +kernel
theorem dL_all_7 : decode cL_all 7 = .ok (.iconst 4, 1) := by decide +kernel
theorem dL_all_8 : decode cL_all 8 = .ok (.if_icmp .ge 20, 3) := by decide +kernel
theorem dL_all_11 : decode cL_all 11 = .ok (.iload_n 3, 1) := by decide +kernel
theorem dL_all_12 : decode cL_all 12 = .ok (.aload_n 0, 1) := by decide +kernel
theorem dL_all_13 : decode cL_all 13 = .ok (.iload 4, 2) := by decide +kernel
theorem dL_all_15 : decode cL_all 15 = .ok (.iload_n 1, 1) := by decide +kernel
theorem dL_all_16 : decode cL_all 16 = .ok (.iload_n 2, 1) := by decide +kernel
theorem dL_all_17 : decode cL_all 17 = .ok (.invokevirtual 46, 3) := by decide +kernel
theorem dL_all_20 : decode cL_all 20 = .ok (.iadd, 1) := by decide +kernel
theorem dL_all_21 : decode cL_all 21 = .ok (.istore_n 3, 1) := by decide +kernel
theorem dL_all_22 : decode cL_all 22 = .ok (.iinc 4 1, 3) := by decide +kernel
theorem dL_all_25 : decode cL_all 25 = .ok (.goto (-20), 3) := by decide +kernel
theorem dL_all_28 : decode cL_all 28 = .ok (.iload_n 3, 1) := by decide +kernel
theorem dL_all_29 : decode cL_all 29 = .ok (.ireturn, 1) := by decide +kernel
theorem dL_isBest_0 : decode cL_isBest 0 = .ok (.iconst (-1), 1) := by decide +kernel
theorem dL_isBest_1 : decode cL_isBest 1 = .ok (.istore_n 2, 1) := by decide +kernel
theorem dL_isBest_2 : decode cL_isBest 2 = .ok (.iconst (-1), 1) := by decide +kernel
theorem dL_isBest_3 : decode cL_isBest 3 = .ok (.istore_n 3, 1) := by decide +kernel
theorem dL_isBest_4 : decode cL_isBest 4 = .ok (.iconst 0, 1) := by decide +kernel
theorem dL_isBest_5 : decode cL_isBest 5 = .ok (.istore 4, 2) := by decide +kernel
theorem dL_isBest_7 : decode cL_isBest 7 = .ok (.iload 4, 2) := by decide +kernel
theorem dL_isBest_9 : decode cL_isBest 9 = .ok (.iconst 3, 1) := by decide +kernel
theorem dL_isBest_10 : decode cL_isBest 10 = .ok (.if_icmp .ge 164, 3) := by decide +kernel
theorem dL_isBest_13 : decode cL_isBest 13 = .ok (.new 9, 3) := by decide +kernel
theorem dL_isBest_16 : decode cL_isBest 16 = .ok (.dup, 1) := by decide +kernel
theorem dL_isBest_17 : decode cL_isBest 17 = .ok (.aload_n 0, 1) := by decide +kernel
theorem dL_isBest_18 : decode cL_isBest 18 = .ok (.bipush 41, 2) := by decide +kernel
theorem dL_isBest_20 : decode cL_isBest 20 = .ok (.iload_n 1, 1) := by decide +kernel
theorem dL_isBest_21 : decode cL_isBest 21 = .ok (.imul, 1) := by decide +kernel
theorem dL_isBest_22 : decode cL_isBest 22 = .ok (.iconst 3, 1) := by decide +kernel
theorem dL_isBest_23 : decode cL_isBest 23 = .ok (.iadd, 1) := by decide +kernel
theorem dL_isBest_24 : decode cL_isBest 24 = .ok (.invokespecial 11, 3) := by decide +kernel
theorem dL_isBest_27 : decode cL_isBest 27 = .ok (.astore 5, 2) := by decide +kernel
theorem dL_isBest_29 : decode cL_isBest 29 = .ok (.aload 5, 2) := by decide +kernel
theorem dL_isBest_31 : decode cL_isBest 31 = .ok (.iconst 4, 1) := by decide +kernel
theorem dL_isBest_32 : decode cL_isBest 32 = .ok (.invokevirtual 18, 3) := by decide +kernel
theorem dL_isBest_35 : decode cL_isBest 35 = .ok (.ifCond .ne 5, 3) := by decide +kernel
theorem dL_isBest_38 : decode cL_isBest 38 = .ok (.iconst 0, 1) := by decide +kernel
theorem dL_isBest_39 : decode cL_isBest 39 = .ok (.ireturn, 1) := by decide +kernel
theorem dL_isBest_40 : decode cL_isBest 40 = .ok (.aload 5, 2) := by decide +kernel
theorem dL_isBest_42 : decode cL_isBest 42 = .ok (.bipush 60, 2) := by decide +kernel
theorem dL_isBest_44 : decode cL_isBest 44 = .ok (.invokevirtual 22, 3) := by decide +kernel
theorem dL_isBest_47 : decode cL_isBest 47 = .ok (.istore 6, 2) := by decide +kernel
theorem dL_isBest_49 : decode cL_isBest 49 = .ok (.iconst 1, 1) := by decide +kernel
theorem dL_isBest_50 : decode cL_isBest 50 = .ok (.aload 5, 2) := by decide +kernel
theorem dL_isBest_52 : decode cL_isBest 52 = .ok (.bipush 20, 2) := by decide +kernel
theorem dL_isBest_54 : decode cL_isBest 54 = .ok (.invokevirtual 22, 3) := by decide +kernel
theorem dL_isBest_57 : decode cL_isBest 57 = .ok (.iadd, 1) := by decide +kernel
theorem dL_isBest_58 : decode cL_isBest 58 = .ok (.istore 7, 2) := by decide +kernel
theorem dL_isBest_60 : decode cL_isBest 60 = .ok (.aload 5, 2) := by decide +kernel
theorem dL_isBest_62 : decode cL_isBest 62 = .ok (.bipush 21, 2) := by decide +kernel
theorem dL_isBest_64 : decode cL_isBest 64 = .ok (.invokevirtual 22, 3) := by decide +kernel
theorem dL_isBest_67 : decode cL_isBest 67 = .ok (.istore 8, 2) := by decide +kernel
theorem dL_isBest_69 : decode cL_isBest 69 = .ok (.iload 4, 2) := by decide +kernel
theorem dL_isBest_71 : decode cL_isBest 71 = .ok (.ifCond .ne 16, 3) := by decide +kernel
theorem dL_isBest_74 : decode cL_isBest 74 = .ok (.aload 5, 2) := by decide +kernel
theorem dL_isBest_76 : decode cL_isBest 76 = .ok (.getfield 14, 3) := by decide +kernel
theorem dL_isBest_79 : decode cL_isBest 79 = .ok (.iload 6, 2) := by decide +kernel
theorem dL_isBest_81 : decode cL_isBest 81 = .ok (.iload 7, 2) := by decide +kernel
theorem dL_isBest_83 : decode cL_isBest 83 = .ok (.invokevirtual 50, 3) := by decide +kernel
theorem dL_isBest_86 : decode cL_isBest 86 = .ok (.istore_n 3, 1) := by decide +kernel
theorem dL_isBest_87 : decode cL_isBest 87 = .ok (.iload 4, 2) := by decide +kernel
theorem dL_isBest_89 : decode cL_isBest 89 = .ok (.ifCond .ne 7, 3) := by decide +kernel
theorem dL_isBest_92 : decode cL_isBest 92 = .ok (.iload_n 3, 1) := by decide +kernel
theorem dL_isBest_93 : decode cL_isBest 93 = .ok (.goto 15, 3) := by decide +kernel
theorem dL_isBest_96 : decode cL_isBest 96 = .ok (.iload 4, 2) := by decide +kernel
theorem dL_isBest_98 : decode cL_isBest 98 = .ok (.iconst 1, 1) := by decide +kernel
theorem dL_isBest_99 : decode cL_isBest 99 = .ok (.if_icmp .ne 7, 3) := by decide +kernel
theorem dL_isBest_102 : decode cL_isBest 102 = .ok (.iconst 0, 1) := by decide +kernel
theorem dL_isBest_103 : decode cL_isBest 103 = .ok (.goto 5, 3) := by decide +kernel
theorem dL_isBest_106 : decode cL_isBest 106 = .ok (.iload 8, 2) := by decide +kernel
theorem dL_isBest_108 : decode cL_isBest 108 = .ok (.istore 9, 2) := by decide +kernel
theorem dL_isBest_110 : decode cL_isBest 110 = .ok (.iload 9, 2) := by decide +kernel
theorem dL_isBest_112 : decode cL_isBest 112 = .ok (.ifCond .le 14, 3) := by decide +kernel
theorem dL_isBest_115 : decode cL_isBest 115 = .ok (.aload 5, 2) := by decide +kernel
theorem dL_isBest_117 : decode cL_isBest 117 = .ok (.getfield 14, 3) := by decide +kernel
theorem dL_isBest_120 : decode cL_isBest 120 = .ok (.iload 9, 2) := by decide +kernel
theorem dL_isBest_122 : decode cL_isBest 122 = .ok (.invokevirtual 78, 3) := by decide +kernel
theorem dL_isBest_125 : decode cL_isBest 125 = .ok (.pop, 1) := by decide +kernel
theorem dL_isBest_126 : decode cL_isBest 126 = .ok (.aload 5, 2) := by decide +kernel
theorem dL_isBest_128 : decode cL_isBest 128 = .ok (.getfield 14, 3) := by decide +kernel
theorem dL_isBest_131 : decode cL_isBest 131 = .ok (.iload 6, 2) := by decide +kernel
theorem dL_isBest_133 : decode cL_isBest 133 = .ok (.iload 7, 2) := by decide +kernel
theorem dL_isBest_135 : decode cL_isBest 135 = .ok (.invokevirtual 71, 3) := by decide +kernel
theorem dL_isBest_138 : decode cL_isBest 138 = .ok (.istore 10, 2) := by decide +kernel
theorem dL_isBest_140 : decode cL_isBest 140 = .ok (.iload 4, 2) := by decide +kernel
theorem dL_isBest_142 : decode cL_isBest 142 = .ok (.ifCond .ne 6, 3) := by decide +kernel
theorem dL_isBest_145 : decode cL_isBest 145 = .ok (.iload 10, 2) := by decide +kernel
theorem dL_isBest_147 : decode cL_isBest 147 = .ok (.istore_n 2, 1) := by decide +kernel
theorem dL_isBest_148 : decode cL_isBest 148 = .ok (.iload 10, 2) := by decide +kernel
theorem dL_isBest_150 : decode cL_isBest 150 = .ok (.iload_n 2, 1) := by decide +kernel
theorem dL_isBest_151 : decode cL_isBest 151 = .ok (.if_icmp .gt 15, 3) := by decide +kernel
theorem dL_isBest_154 : decode cL_isBest 154 = .ok (.iload 10, 2) := by decide +kernel
theorem dL_isBest_156 : decode cL_isBest 156 = .ok (.iload_n 2, 1) := by decide +kernel
theorem dL_isBest_157 : decode cL_isBest 157 = .ok (.if_icmp .ne 11, 3) := by decide +kernel
theorem dL_isBest_160 : decode cL_isBest 160 = .ok (.iload 9, 2) := by decide +kernel
theorem dL_isBest_162 : decode cL_isBest 162 = .ok (.iload_n 3, 1) := by decide +kernel
theorem dL_isBest_163 : decode cL_isBest 163 = .ok (.if_icmp .ge 5, 3) := by decide +kernel
theorem dL_isBest_166 : decode cL_isBest 166 = .ok (.iconst 0, 1) := by decide +kernel
theorem dL_isBest_167 : decode cL_isBest 167 = .ok (.ireturn, 1) := by decide +kernel
theorem dL_isBest_168 : decode cL_isBest 168 = .ok (.iinc 4 1, 3) := by decide +kernel
theorem dL_isBest_171 : decode cL_isBest 171 = .ok (.goto (-164), 3) := by decide +kernel
theorem dL_isBest_174 : decode cL_isBest 174 = .ok (.iconst 1, 1) := by decide +kernel
theorem dL_isBest_175 : decode cL_isBest 175 = .ok (.ireturn, 1) := by decide +kernel
