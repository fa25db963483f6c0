def zm_Ref_init : zg_M := (⟨"SurrogateTreeModel", "<init>", "()V"⟩, prog_13_method_1_code, 1, none)
theorem zd_Ref_init_0 : decode prog_13_method_1_code 0 = .ok (.aload_n 0, 1) := by decide +kernel
theorem zd_Ref_init_1 : decode prog_13_method_1_code 1 = .ok (.invokespecial 1, 3) := by decide +kernel
theorem zd_Ref_init_4 : decode prog_13_method_1_code 4 = .ok (.aload_n 0, 1) := by decide +kernel
theorem zd_Ref_init_5 : decode prog_13_method_1_code 5 = .ok (.bipush 48, 2) := by decide +kernel
theorem zd_Ref_init_7 : decode prog_13_method_1_code 7 = .ok (.newarray .int, 2) := by decide +kernel
theorem zd_Ref_init_9 : decode prog_13_method_1_code 9 = .ok (.putfield 7, 3) := by decide +kernel
theorem zd_Ref_init_12 : decode prog_13_method_1_code 12 = .ok (.aload_n 0, 1) := by decide +kernel
theorem zd_Ref_init_13 : decode prog_13_method_1_code 13 = .ok (.bipush 16, 2) := by decide +kernel
theorem zd_Ref_init_15 : decode prog_13_method_1_code 15 = .ok (.newarray .int, 2) := by decide +kernel
theorem zd_Ref_init_17 : decode prog_13_method_1_code 17 = .ok (.putfield 13, 3) := by decide +kernel
theorem zd_Ref_init_20 : decode prog_13_method_1_code 20 = .ok (.aload_n 0, 1) := by decide +kernel
theorem zd_Ref_init_21 : decode prog_13_method_1_code 21 = .ok (.bipush 16, 2) := by decide +kernel
theorem zd_Ref_init_23 : decode prog_13_method_1_code 23 = .ok (.newarray .int, 2) := by decide +kernel
theorem zd_Ref_init_25 : decode prog_13_method_1_code 25 = .ok (.putfield 16, 3) := by decide +kernel
theorem zd_Ref_init_28 : decode prog_13_method_1_code 28 = .ok (.aload_n 0, 1) := by decide +kernel
theorem zd_Ref_init_29 : decode prog_13_method_1_code 29 = .ok (.bipush 64, 2) := by decide +kernel
theorem zd_Ref_init_31 : decode prog_13_method_1_code 31 = .ok (.newarray .int, 2) := by decide +kernel
theorem zd_Ref_init_33 : decode prog_13_method_1_code 33 = .ok (.putfield 19, 3) := by decide +kernel
theorem zd_Ref_init_36 : decode prog_13_method_1_code 36 = .ok (.aload_n 0, 1) := by decide +kernel
theorem zd_Ref_init_37 : decode prog_13_method_1_code 37 = .ok (.iconst 4, 1) := by decide +kernel
theorem zd_Ref_init_38 : decode prog_13_method_1_code 38 = .ok (.putfield 22, 3) := by decide +kernel
theorem zd_Ref_init_41 : decode prog_13_method_1_code 41 = .ok (.aload_n 0, 1) := by decide +kernel
theorem zd_Ref_init_42 : decode prog_13_method_1_code 42 = .ok (.iconst 1, 1) := by decide +kernel
theorem zd_Ref_init_43 : decode prog_13_method_1_code 43 = .ok (.putfield 26, 3) := by decide +kernel
theorem zd_Ref_init_46 : decode prog_13_method_1_code 46 = .ok (.aload_n 0, 1) := by decide +kernel
theorem zd_Ref_init_47 : decode prog_13_method_1_code 47 = .ok (.bipush 32, 2) := by decide +kernel
theorem zd_Ref_init_49 : decode prog_13_method_1_code 49 = .ok (.newarray .int, 2) := by decide +kernel
theorem zd_Ref_init_51 : decode prog_13_method_1_code 51 = .ok (.putfield 29, 3) := by decide +kernel
theorem zd_Ref_init_54 : decode prog_13_method_1_code 54 = .ok (.aload_n 0, 1) := by decide +kernel
theorem zd_Ref_init_55 : decode prog_13_method_1_code 55 = .ok (.bipush 32, 2) := by decide +kernel
theorem zd_Ref_init_57 : decode prog_13_method_1_code 57 = .ok (.newarray .int, 2) := by decide +kernel
theorem zd_Ref_init_59 : decode prog_13_method_1_code 59 = .ok (.putfield 32, 3) := by decide +kernel
theorem zd_Ref_init_62 : decode prog_13_method_1_code 62 = .ok (.aload_n 0, 1) := by decide +kernel
theorem zd_Ref_init_63 : decode prog_13_method_1_code 63 = .ok (.bipush 32, 2) := by decide +kernel
theorem zd_Ref_init_65 : decode prog_13_method_1_code 65 = .ok (.newarray .int, 2) := by decide +kernel
theorem zd_Ref_init_67 : decode prog_13_method_1_code 67 = .ok (.putfield 35, 3) := by decide +kernel
theorem zd_Ref_init_70 : decode prog_13_method_1_code 70 = .ok (.aload_n 0, 1) := by decide +kernel
theorem zd_Ref_init_71 : decode prog_13_method_1_code 71 = .ok (.bipush 32, 2) := by decide +kernel
theorem zd_Ref_init_73 : decode prog_13_method_1_code 73 = .ok (.newarray .int, 2) := by decide +kernel
theorem zd_Ref_init_75 : decode prog_13_method_1_code 75 = .ok (.putfield 38, 3) := by decide +kernel
theorem zd_Ref_init_78 : decode prog_13_method_1_code 78 = .ok (.aload_n 0, 1) := by decide +kernel
theorem zd_Ref_init_79 : decode prog_13_method_1_code 79 = .ok (.iconst 2, 1) := by decide +kernel
theorem zd_Ref_init_80 : decode prog_13_method_1_code 80 = .ok (.newarray .int, 2) := by decide +kernel
theorem zd_Ref_init_82 : decode prog_13_method_1_code 82 = .ok (.putfield 41, 3) := by decide +kernel
theorem zd_Ref_init_85 : decode prog_13_method_1_code 85 = .ok (.aload_n 0, 1) := by decide +kernel
theorem zd_Ref_init_86 : decode prog_13_method_1_code 86 = .ok (.iconst 2, 1) := by decide +kernel
theorem zd_Ref_init_87 : decode prog_13_method_1_code 87 = .ok (.newarray .int, 2) := by decide +kernel
theorem zd_Ref_init_89 : decode prog_13_method_1_code 89 = .ok (.putfield 44, 3) := by decide +kernel
theorem zd_Ref_init_92 : decode prog_13_method_1_code 92 = .ok (.aload_n 0, 1) := by decide +kernel
theorem zd_Ref_init_93 : decode prog_13_method_1_code 93 = .ok (.iconst 2, 1) := by decide +kernel
theorem zd_Ref_init_94 : decode prog_13_method_1_code 94 = .ok (.newarray .int, 2) := by decide +kernel
theorem zd_Ref_init_96 : decode prog_13_method_1_code 96 = .ok (.putfield 47, 3) := by decide +kernel
theorem zd_Ref_init_99 : decode prog_13_method_1_code 99 = .ok (.aload_n 0, 1) := by decide +kernel
theorem zd_Ref_init_100 : decode prog_13_method_1_code 100 = .ok (.iconst 2, 1) := by decide +kernel
theorem zd_Ref_init_101 : decode prog_13_method_1_code 101 = .ok (.newarray .int, 2) := by decide +kernel
theorem zd_Ref_init_103 : decode prog_13_method_1_code 103 = .ok (.putfield 50, 3) := by decide +kernel
theorem zd_Ref_init_106 : decode prog_13_method_1_code 106 = .ok (.aload_n 0, 1) := by decide +kernel
theorem zd_Ref_init_107 : decode prog_13_method_1_code 107 = .ok (.bipush 32, 2) := by decide +kernel
theorem zd_Ref_init_109 : decode prog_13_method_1_code 109 = .ok (.newarray .int, 2) := by decide +kernel
theorem zd_Ref_init_111 : decode prog_13_method_1_code 111 = .ok (.putfield 53, 3) := by decide +kernel
theorem zd_Ref_init_114 : decode prog_13_method_1_code 114 = .ok (.aload_n 0, 1) := by decide +kernel
theorem zd_Ref_init_115 : decode prog_13_method_1_code 115 = .ok (.bipush 32, 2) := by decide +kernel
theorem zd_Ref_init_117 : decode prog_13_method_1_code 117 = .ok (.newarray .long, 2) := by decide +kernel
theorem zd_Ref_init_119 : decode prog_13_method_1_code 119 = .ok (.putfield 56, 3) := by decide +kernel
theorem zd_Ref_init_122 : decode prog_13_method_1_code 122 = .ok (.aload_n 0, 1) := by decide +kernel
theorem zd_Ref_init_123 : decode prog_13_method_1_code 123 = .ok (.bipush 32, 2) := by decide +kernel
theorem zd_Ref_init_125 : decode prog_13_method_1_code 125 = .ok (.newarray .int, 2) := by decide +kernel
theorem zd_Ref_init_127 : decode prog_13_method_1_code 127 = .ok (.putfield 60, 3) := by decide +kernel
theorem zd_Ref_init_130 : decode prog_13_method_1_code 130 = .ok (.aload_n 0, 1) := by decide +kernel
theorem zd_Ref_init_131 : decode prog_13_method_1_code 131 = .ok (.bipush 32, 2) := by decide +kernel
theorem zd_Ref_init_133 : decode prog_13_method_1_code 133 = .ok (.newarray .boolean, 2) := by decide +kernel
theorem zd_Ref_init_135 : decode prog_13_method_1_code 135 = .ok (.putfield 63, 3) := by decide +kernel
theorem zd_Ref_init_138 : decode prog_13_method_1_code 138 = .ok (.aload_n 0, 1) := by decide +kernel
theorem zd_Ref_init_139 : decode prog_13_method_1_code 139 = .ok (.bipush 16, 2) := by decide +kernel
theorem zd_Ref_init_141 : decode prog_13_method_1_code 141 = .ok (.newarray .int, 2) := by decide +kernel
theorem zd_Ref_init_143 : decode prog_13_method_1_code 143 = .ok (.putfield 67, 3) := by decide +kernel
theorem zd_Ref_init_146 : decode prog_13_method_1_code 146 = .ok (.aload_n 0, 1) := by decide +kernel
theorem zd_Ref_init_147 : decode prog_13_method_1_code 147 = .ok (.bipush 16, 2) := by decide +kernel
theorem zd_Ref_init_149 : decode prog_13_method_1_code 149 = .ok (.newarray .int, 2) := by decide +kernel
theorem zd_Ref_init_151 : decode prog_13_method_1_code 151 = .ok (.putfield 70, 3) := by decide +kernel
theorem zd_Ref_init_154 : decode prog_13_method_1_code 154 = .ok (.aload_n 0, 1) := by decide +kernel
theorem zd_Ref_init_155 : decode prog_13_method_1_code 155 = .ok (.invokevirtual 73, 3) := by decide +kernel
theorem zd_Ref_init_158 : decode prog_13_method_1_code 158 = .ok (.return_, 1) := by decide +kernel
def zm_Ref_anew : zg_M := (⟨"SurrogateTreeModel", "anew", "()V"⟩, prog_13_method_2_code, 2, none)
theorem zd_Ref_anew_0 : decode prog_13_method_2_code 0 = .ok (.iconst 0, 1) := by decide +kernel
theorem zd_Ref_anew_1 : decode prog_13_method_2_code 1 = .ok (.istore_n 1, 1) := by decide +kernel
theorem zd_Ref_anew_2 : decode prog_13_method_2_code 2 = .ok (.iload_n 1, 1) := by decide +kernel
theorem zd_Ref_anew_3 : decode prog_13_method_2_code 3 = .ok (.bipush 32, 2) := by decide +kernel
theorem zd_Ref_anew_5 : decode prog_13_method_2_code 5 = .ok (.if_icmp .ge 23, 3) := by decide +kernel
theorem zd_Ref_anew_8 : decode prog_13_method_2_code 8 = .ok (.aload_n 0, 1) := by decide +kernel
theorem zd_Ref_anew_9 : decode prog_13_method_2_code 9 = .ok (.getfield 29, 3) := by decide +kernel
theorem zd_Ref_anew_12 : decode prog_13_method_2_code 12 = .ok (.iload_n 1, 1) := by decide +kernel
theorem zd_Ref_anew_13 : decode prog_13_method_2_code 13 = .ok (.iconst 0, 1) := by decide +kernel
theorem zd_Ref_anew_14 : decode prog_13_method_2_code 14 = .ok (.iastore, 1) := by decide +kernel
theorem zd_Ref_anew_15 : decode prog_13_method_2_code 15 = .ok (.aload_n 0, 1) := by decide +kernel
theorem zd_Ref_anew_16 : decode prog_13_method_2_code 16 = .ok (.getfield 32, 3) := by decide +kernel
theorem zd_Ref_anew_19 : decode prog_13_method_2_code 19 = .ok (.iload_n 1, 1) := by decide +kernel
theorem zd_Ref_anew_20 : decode prog_13_method_2_code 20 = .ok (.iconst 0, 1) := by decide +kernel
theorem zd_Ref_anew_21 : decode prog_13_method_2_code 21 = .ok (.iastore, 1) := by decide +kernel
theorem zd_Ref_anew_22 : decode prog_13_method_2_code 22 = .ok (.iinc 1 1, 3) := by decide +kernel
theorem zd_Ref_anew_25 : decode prog_13_method_2_code 25 = .ok (.goto (-23), 3) := by decide +kernel
theorem zd_Ref_anew_28 : decode prog_13_method_2_code 28 = .ok (.aload_n 0, 1) := by decide +kernel
theorem zd_Ref_anew_29 : decode prog_13_method_2_code 29 = .ok (.getfield 29, 3) := by decide +kernel
theorem zd_Ref_anew_32 : decode prog_13_method_2_code 32 = .ok (.iconst 1, 1) := by decide +kernel
theorem zd_Ref_anew_33 : decode prog_13_method_2_code 33 = .ok (.iconst 1, 1) := by decide +kernel
theorem zd_Ref_anew_34 : decode prog_13_method_2_code 34 = .ok (.iastore, 1) := by decide +kernel
theorem zd_Ref_anew_35 : decode prog_13_method_2_code 35 = .ok (.iconst 0, 1) := by decide +kernel
theorem zd_Ref_anew_36 : decode prog_13_method_2_code 36 = .ok (.istore_n 1, 1) := by decide +kernel
theorem zd_Ref_anew_37 : decode prog_13_method_2_code 37 = .ok (.iload_n 1, 1) := by decide +kernel
theorem zd_Ref_anew_38 : decode prog_13_method_2_code 38 = .ok (.aload_n 0, 1) := by decide +kernel
theorem zd_Ref_anew_39 : decode prog_13_method_2_code 39 = .ok (.getfield 76, 3) := by decide +kernel
theorem zd_Ref_anew_42 : decode prog_13_method_2_code 42 = .ok (.if_icmp .ge 43, 3) := by decide +kernel
theorem zd_Ref_anew_45 : decode prog_13_method_2_code 45 = .ok (.aload_n 0, 1) := by decide +kernel
theorem zd_Ref_anew_46 : decode prog_13_method_2_code 46 = .ok (.getfield 32, 3) := by decide +kernel
theorem zd_Ref_anew_49 : decode prog_13_method_2_code 49 = .ok (.iconst 1, 1) := by decide +kernel
theorem zd_Ref_anew_50 : decode prog_13_method_2_code 50 = .ok (.aload_n 0, 1) := by decide +kernel
theorem zd_Ref_anew_51 : decode prog_13_method_2_code 51 = .ok (.getfield 16, 3) := by decide +kernel
theorem zd_Ref_anew_54 : decode prog_13_method_2_code 54 = .ok (.iload_n 1, 1) := by decide +kernel
theorem zd_Ref_anew_55 : decode prog_13_method_2_code 55 = .ok (.iaload, 1) := by decide +kernel
theorem zd_Ref_anew_56 : decode prog_13_method_2_code 56 = .ok (.ifCond .le 16, 3) := by decide +kernel
theorem zd_Ref_anew_59 : decode prog_13_method_2_code 59 = .ok (.aload_n 0, 1) := by decide +kernel
theorem zd_Ref_anew_60 : decode prog_13_method_2_code 60 = .ok (.getfield 32, 3) := by decide +kernel
theorem zd_Ref_anew_63 : decode prog_13_method_2_code 63 = .ok (.iconst 1, 1) := by decide +kernel
theorem zd_Ref_anew_64 : decode prog_13_method_2_code 64 = .ok (.iaload, 1) := by decide +kernel
theorem zd_Ref_anew_65 : decode prog_13_method_2_code 65 = .ok (.iconst 1, 1) := by decide +kernel
theorem zd_Ref_anew_66 : decode prog_13_method_2_code 66 = .ok (.iload_n 1, 1) := by decide +kernel
theorem zd_Ref_anew_67 : decode prog_13_method_2_code 67 = .ok (.ishl, 1) := by decide +kernel
theorem zd_Ref_anew_68 : decode prog_13_method_2_code 68 = .ok (.ior, 1) := by decide +kernel
theorem zd_Ref_anew_69 : decode prog_13_method_2_code 69 = .ok (.goto 9, 3) := by decide +kernel
theorem zd_Ref_anew_72 : decode prog_13_method_2_code 72 = .ok (.aload_n 0, 1) := by decide +kernel
theorem zd_Ref_anew_73 : decode prog_13_method_2_code 73 = .ok (.getfield 32, 3) := by decide +kernel
theorem zd_Ref_anew_76 : decode prog_13_method_2_code 76 = .ok (.iconst 1, 1) := by decide +kernel
theorem zd_Ref_anew_77 : decode prog_13_method_2_code 77 = .ok (.iaload, 1) := by decide +kernel
theorem zd_Ref_anew_78 : decode prog_13_method_2_code 78 = .ok (.iastore, 1) := by decide +kernel
theorem zd_Ref_anew_79 : decode prog_13_method_2_code 79 = .ok (.iinc 1 1, 3) := by decide +kernel
theorem zd_Ref_anew_82 : decode prog_13_method_2_code 82 = .ok (.goto (-45), 3) := by decide +kernel
theorem zd_Ref_anew_85 : decode prog_13_method_2_code 85 = .ok (.aload_n 0, 1) := by decide +kernel
theorem zd_Ref_anew_86 : decode prog_13_method_2_code 86 = .ok (.iconst 0, 1) := by decide +kernel
theorem zd_Ref_anew_87 : decode prog_13_method_2_code 87 = .ok (.putfield 79, 3) := by decide +kernel
theorem zd_Ref_anew_90 : decode prog_13_method_2_code 90 = .ok (.return_, 1) := by decide +kernel
def zm_Ref_addRow : zg_M := (⟨"SurrogateTreeModel", "addRow", "(IIII)I"⟩, prog_13_method_3_code, 6, (some .int))
theorem zd_Ref_addRow_0 : decode prog_13_method_3_code 0 = .ok (.iload 4, 2) := by decide +kernel
theorem zd_Ref_addRow_2 : decode prog_13_method_3_code 2 = .ok (.ifCond .lt 18, 3) := by decide +kernel
theorem zd_Ref_addRow_5 : decode prog_13_method_3_code 5 = .ok (.iload 4, 2) := by decide +kernel
theorem zd_Ref_addRow_7 : decode prog_13_method_3_code 7 = .ok (.iconst 3, 1) := by decide +kernel
theorem zd_Ref_addRow_8 : decode prog_13_method_3_code 8 = .ok (.if_icmp .gt 12, 3) := by decide +kernel
theorem zd_Ref_addRow_11 : decode prog_13_method_3_code 11 = .ok (.aload_n 0, 1) := by decide +kernel
theorem zd_Ref_addRow_12 : decode prog_13_method_3_code 12 = .ok (.getfield 76, 3) := by decide +kernel
theorem zd_Ref_addRow_15 : decode prog_13_method_3_code 15 = .ok (.bipush 16, 2) := by decide +kernel
theorem zd_Ref_addRow_17 : decode prog_13_method_3_code 17 = .ok (.if_icmp .lt 5, 3) := by decide +kernel
theorem zd_Ref_addRow_20 : decode prog_13_method_3_code 20 = .ok (.iconst (-1), 1) := by decide +kernel
theorem zd_Ref_addRow_21 : decode prog_13_method_3_code 21 = .ok (.ireturn, 1) := by decide +kernel
theorem zd_Ref_addRow_22 : decode prog_13_method_3_code 22 = .ok (.aload_n 0, 1) := by decide +kernel
theorem zd_Ref_addRow_23 : decode prog_13_method_3_code 23 = .ok (.getfield 7, 3) := by decide +kernel
theorem zd_Ref_addRow_26 : decode prog_13_method_3_code 26 = .ok (.iconst 3, 1) := by decide +kernel
theorem zd_Ref_addRow_27 : decode prog_13_method_3_code 27 = .ok (.aload_n 0, 1) := by decide +kernel
theorem zd_Ref_addRow_28 : decode prog_13_method_3_code 28 = .ok (.getfield 76, 3) := by decide +kernel
theorem zd_Ref_addRow_31 : decode prog_13_method_3_code 31 = .ok (.imul, 1) := by decide +kernel
theorem zd_Ref_addRow_32 : decode prog_13_method_3_code 32 = .ok (.iload_n 1, 1) := by decide +kernel
theorem zd_Ref_addRow_33 : decode prog_13_method_3_code 33 = .ok (.iastore, 1) := by decide +kernel
theorem zd_Ref_addRow_34 : decode prog_13_method_3_code 34 = .ok (.aload_n 0, 1) := by decide +kernel
theorem zd_Ref_addRow_35 : decode prog_13_method_3_code 35 = .ok (.getfield 7, 3) := by decide +kernel
theorem zd_Ref_addRow_38 : decode prog_13_method_3_code 38 = .ok (.iconst 3, 1) := by decide +kernel
theorem zd_Ref_addRow_39 : decode prog_13_method_3_code 39 = .ok (.aload_n 0, 1) := by decide +kernel
theorem zd_Ref_addRow_40 : decode prog_13_method_3_code 40 = .ok (.getfield 76, 3) := by decide +kernel
theorem zd_Ref_addRow_43 : decode prog_13_method_3_code 43 = .ok (.imul, 1) := by decide +kernel
theorem zd_Ref_addRow_44 : decode prog_13_method_3_code 44 = .ok (.iconst 1, 1) := by decide +kernel
theorem zd_Ref_addRow_45 : decode prog_13_method_3_code 45 = .ok (.iadd, 1) := by decide +kernel
theorem zd_Ref_addRow_46 : decode prog_13_method_3_code 46 = .ok (.iload_n 2, 1) := by decide +kernel
theorem zd_Ref_addRow_47 : decode prog_13_method_3_code 47 = .ok (.iastore, 1) := by decide +kernel
theorem zd_Ref_addRow_48 : decode prog_13_method_3_code 48 = .ok (.aload_n 0, 1) := by decide +kernel
theorem zd_Ref_addRow_49 : decode prog_13_method_3_code 49 = .ok (.getfield 7, 3) := by decide +kernel
theorem zd_Ref_addRow_52 : decode prog_13_method_3_code 52 = .ok (.iconst 3, 1) := by decide +kernel
theorem zd_Ref_addRow_53 : decode prog_13_method_3_code 53 = .ok (.aload_n 0, 1) := by decide +kernel
theorem zd_Ref_addRow_54 : decode prog_13_method_3_code 54 = .ok (.getfield 76, 3) := by decide +kernel
theorem zd_Ref_addRow_57 : decode prog_13_method_3_code 57 = .ok (.imul, 1) := by decide +kernel
theorem zd_Ref_addRow_58 : decode prog_13_method_3_code 58 = .ok (.iconst 2, 1) := by decide +kernel
theorem zd_Ref_addRow_59 : decode prog_13_method_3_code 59 = .ok (.iadd, 1) := by decide +kernel
theorem zd_Ref_addRow_60 : decode prog_13_method_3_code 60 = .ok (.iload_n 3, 1) := by decide +kernel
theorem zd_Ref_addRow_61 : decode prog_13_method_3_code 61 = .ok (.iastore, 1) := by decide +kernel
theorem zd_Ref_addRow_62 : decode prog_13_method_3_code 62 = .ok (.aload_n 0, 1) := by decide +kernel
theorem zd_Ref_addRow_63 : decode prog_13_method_3_code 63 = .ok (.getfield 13, 3) := by decide +kernel
theorem zd_Ref_addRow_66 : decode prog_13_method_3_code 66 = .ok (.aload_n 0, 1) := by decide +kernel
theorem zd_Ref_addRow_67 : decode prog_13_method_3_code 67 = .ok (.getfield 76, 3) := by decide +kernel
theorem zd_Ref_addRow_70 : decode prog_13_method_3_code 70 = .ok (.iload 4, 2) := by decide +kernel
theorem zd_Ref_addRow_72 : decode prog_13_method_3_code 72 = .ok (.iastore, 1) := by decide +kernel
theorem zd_Ref_addRow_73 : decode prog_13_method_3_code 73 = .ok (.aload_n 0, 1) := by decide +kernel
theorem zd_Ref_addRow_74 : decode prog_13_method_3_code 74 = .ok (.dup, 1) := by decide +kernel
theorem zd_Ref_addRow_75 : decode prog_13_method_3_code 75 = .ok (.getfield 76, 3) := by decide +kernel
theorem zd_Ref_addRow_78 : decode prog_13_method_3_code 78 = .ok (.iconst 1, 1) := by decide +kernel
theorem zd_Ref_addRow_79 : decode prog_13_method_3_code 79 = .ok (.iadd, 1) := by decide +kernel
theorem zd_Ref_addRow_80 : decode prog_13_method_3_code 80 = .ok (.putfield 76, 3) := by decide +kernel
theorem zd_Ref_addRow_83 : decode prog_13_method_3_code 83 = .ok (.iconst 0, 1) := by decide +kernel
theorem zd_Ref_addRow_84 : decode prog_13_method_3_code 84 = .ok (.istore 5, 2) := by decide +kernel
theorem zd_Ref_addRow_86 : decode prog_13_method_3_code 86 = .ok (.iload 5, 2) := by decide +kernel
theorem zd_Ref_addRow_88 : decode prog_13_method_3_code 88 = .ok (.bipush 64, 2) := by decide +kernel
theorem zd_Ref_addRow_90 : decode prog_13_method_3_code 90 = .ok (.if_icmp .ge 17, 3) := by decide +kernel
theorem zd_Ref_addRow_93 : decode prog_13_method_3_code 93 = .ok (.aload_n 0, 1) := by decide +kernel
theorem zd_Ref_addRow_94 : decode prog_13_method_3_code 94 = .ok (.getfield 19, 3) := by decide +kernel
theorem zd_Ref_addRow_97 : decode prog_13_method_3_code 97 = .ok (.iload 5, 2) := by decide +kernel
theorem zd_Ref_addRow_99 : decode prog_13_method_3_code 99 = .ok (.iconst 0, 1) := by decide +kernel
theorem zd_Ref_addRow_100 : decode prog_13_method_3_code 100 = .ok (.iastore, 1) := by decide +kernel
theorem zd_Ref_addRow_101 : decode prog_13_method_3_code 101 = .ok (.iinc 5 1, 3) := by decide +kernel
theorem zd_Ref_addRow_104 : decode prog_13_method_3_code 104 = .ok (.goto (-18), 3) := by decide +kernel
theorem zd_Ref_addRow_107 : decode prog_13_method_3_code 107 = .ok (.aload_n 0, 1) := by decide +kernel
theorem zd_Ref_addRow_108 : decode prog_13_method_3_code 108 = .ok (.invokevirtual 83, 3) := by decide +kernel
theorem zd_Ref_addRow_111 : decode prog_13_method_3_code 111 = .ok (.aload_n 0, 1) := by decide +kernel
theorem zd_Ref_addRow_112 : decode prog_13_method_3_code 112 = .ok (.getfield 76, 3) := by decide +kernel
theorem zd_Ref_addRow_115 : decode prog_13_method_3_code 115 = .ok (.iconst 1, 1) := by decide +kernel
theorem zd_Ref_addRow_116 : decode prog_13_method_3_code 116 = .ok (.isub, 1) := by decide +kernel
theorem zd_Ref_addRow_117 : decode prog_13_method_3_code 117 = .ok (.ireturn, 1) := by decide +kernel
def zm_Ref_even : zg_M := (⟨"SurrogateTreeModel", "even", "()V"⟩, prog_13_method_6_code, 2, none)
theorem zd_Ref_even_0 : decode prog_13_method_6_code 0 = .ok (.iconst 0, 1) := by decide +kernel
theorem zd_Ref_even_1 : decode prog_13_method_6_code 1 = .ok (.istore_n 1, 1) := by decide +kernel
theorem zd_Ref_even_2 : decode prog_13_method_6_code 2 = .ok (.iload_n 1, 1) := by decide +kernel
theorem zd_Ref_even_3 : decode prog_13_method_6_code 3 = .ok (.aload_n 0, 1) := by decide +kernel
theorem zd_Ref_even_4 : decode prog_13_method_6_code 4 = .ok (.getfield 76, 3) := by decide +kernel
theorem zd_Ref_even_7 : decode prog_13_method_6_code 7 = .ok (.if_icmp .ge 16, 3) := by decide +kernel
theorem zd_Ref_even_10 : decode prog_13_method_6_code 10 = .ok (.aload_n 0, 1) := by decide +kernel
theorem zd_Ref_even_11 : decode prog_13_method_6_code 11 = .ok (.getfield 16, 3) := by decide +kernel
theorem zd_Ref_even_14 : decode prog_13_method_6_code 14 = .ok (.iload_n 1, 1) := by decide +kernel
theorem zd_Ref_even_15 : decode prog_13_method_6_code 15 = .ok (.iconst 1, 1) := by decide +kernel
theorem zd_Ref_even_16 : decode prog_13_method_6_code 16 = .ok (.iastore, 1) := by decide +kernel
theorem zd_Ref_even_17 : decode prog_13_method_6_code 17 = .ok (.iinc 1 1, 3) := by decide +kernel
theorem zd_Ref_even_20 : decode prog_13_method_6_code 20 = .ok (.goto (-18), 3) := by decide +kernel
theorem zd_Ref_even_23 : decode prog_13_method_6_code 23 = .ok (.aload_n 0, 1) := by decide +kernel
theorem zd_Ref_even_24 : decode prog_13_method_6_code 24 = .ok (.invokevirtual 73, 3) := by decide +kernel
theorem zd_Ref_even_27 : decode prog_13_method_6_code 27 = .ok (.return_, 1) := by decide +kernel
def zm_Ref_begin : zg_M := (⟨"SurrogateTreeModel", "begin", "(III)Z"⟩, prog_13_method_4_code, 4, (some .boolean))
theorem zd_Ref_begin_0 : decode prog_13_method_4_code 0 = .ok (.iload_n 1, 1) := by decide +kernel
theorem zd_Ref_begin_1 : decode prog_13_method_4_code 1 = .ok (.ifCond .lt 28, 3) := by decide +kernel
theorem zd_Ref_begin_4 : decode prog_13_method_4_code 4 = .ok (.iload_n 1, 1) := by decide +kernel
theorem zd_Ref_begin_5 : decode prog_13_method_4_code 5 = .ok (.iconst 2, 1) := by decide +kernel
theorem zd_Ref_begin_6 : decode prog_13_method_4_code 6 = .ok (.if_icmp .gt 23, 3) := by decide +kernel
theorem zd_Ref_begin_9 : decode prog_13_method_4_code 9 = .ok (.iload_n 2, 1) := by decide +kernel
theorem zd_Ref_begin_10 : decode prog_13_method_4_code 10 = .ok (.ifCond .lt 19, 3) := by decide +kernel
theorem zd_Ref_begin_13 : decode prog_13_method_4_code 13 = .ok (.iload_n 2, 1) := by decide +kernel
theorem zd_Ref_begin_14 : decode prog_13_method_4_code 14 = .ok (.iconst 4, 1) := by decide +kernel
theorem zd_Ref_begin_15 : decode prog_13_method_4_code 15 = .ok (.if_icmp .gt 14, 3) := by decide +kernel
theorem zd_Ref_begin_18 : decode prog_13_method_4_code 18 = .ok (.iload_n 3, 1) := by decide +kernel
theorem zd_Ref_begin_19 : decode prog_13_method_4_code 19 = .ok (.iconst 1, 1) := by decide +kernel
theorem zd_Ref_begin_20 : decode prog_13_method_4_code 20 = .ok (.if_icmp .lt 9, 3) := by decide +kernel
theorem zd_Ref_begin_23 : decode prog_13_method_4_code 23 = .ok (.iload_n 3, 1) := by decide +kernel
theorem zd_Ref_begin_24 : decode prog_13_method_4_code 24 = .ok (.bipush 8, 2) := by decide +kernel
theorem zd_Ref_begin_26 : decode prog_13_method_4_code 26 = .ok (.if_icmp .le 5, 3) := by decide +kernel
theorem zd_Ref_begin_29 : decode prog_13_method_4_code 29 = .ok (.iconst 0, 1) := by decide +kernel
theorem zd_Ref_begin_30 : decode prog_13_method_4_code 30 = .ok (.ireturn, 1) := by decide +kernel
theorem zd_Ref_begin_31 : decode prog_13_method_4_code 31 = .ok (.aload_n 0, 1) := by decide +kernel
theorem zd_Ref_begin_32 : decode prog_13_method_4_code 32 = .ok (.iload_n 1, 1) := by decide +kernel
theorem zd_Ref_begin_33 : decode prog_13_method_4_code 33 = .ok (.putfield 86, 3) := by decide +kernel
theorem zd_Ref_begin_36 : decode prog_13_method_4_code 36 = .ok (.aload_n 0, 1) := by decide +kernel
theorem zd_Ref_begin_37 : decode prog_13_method_4_code 37 = .ok (.iload_n 2, 1) := by decide +kernel
theorem zd_Ref_begin_38 : decode prog_13_method_4_code 38 = .ok (.putfield 22, 3) := by decide +kernel
theorem zd_Ref_begin_41 : decode prog_13_method_4_code 41 = .ok (.aload_n 0, 1) := by decide +kernel
theorem zd_Ref_begin_42 : decode prog_13_method_4_code 42 = .ok (.iload_n 3, 1) := by decide +kernel
theorem zd_Ref_begin_43 : decode prog_13_method_4_code 43 = .ok (.putfield 26, 3) := by decide +kernel
theorem zd_Ref_begin_46 : decode prog_13_method_4_code 46 = .ok (.aload_n 0, 1) := by decide +kernel
theorem zd_Ref_begin_47 : decode prog_13_method_4_code 47 = .ok (.invokevirtual 73, 3) := by decide +kernel
theorem zd_Ref_begin_50 : decode prog_13_method_4_code 50 = .ok (.iconst 1, 1) := by decide +kernel
theorem zd_Ref_begin_51 : decode prog_13_method_4_code 51 = .ok (.ireturn, 1) := by decide +kernel
def zm_Ref_bag : zg_M := (⟨"SurrogateTreeModel", "bag", "(J)I"⟩, prog_13_method_5_code, 8, (some .int))
theorem zd_Ref_bag_0 : decode prog_13_method_5_code 0 = .ok (.aload_n 0, 1) := by decide +kernel
theorem zd_Ref_bag_1 : decode prog_13_method_5_code 1 = .ok (.getfield 76, 3) := by decide +kernel
theorem zd_Ref_bag_4 : decode prog_13_method_5_code 4 = .ok (.ifCond .ne 5, 3) := by decide +kernel
theorem zd_Ref_bag_7 : decode prog_13_method_5_code 7 = .ok (.iconst (-1), 1) := by decide +kernel
theorem zd_Ref_bag_8 : decode prog_13_method_5_code 8 = .ok (.ireturn, 1) := by decide +kernel
theorem zd_Ref_bag_9 : decode prog_13_method_5_code 9 = .ok (.iconst 0, 1) := by decide +kernel
theorem zd_Ref_bag_10 : decode prog_13_method_5_code 10 = .ok (.istore_n 3, 1) := by decide +kernel
theorem zd_Ref_bag_11 : decode prog_13_method_5_code 11 = .ok (.iload_n 3, 1) := by decide +kernel
theorem zd_Ref_bag_12 : decode prog_13_method_5_code 12 = .ok (.bipush 16, 2) := by decide +kernel
theorem zd_Ref_bag_14 : decode prog_13_method_5_code 14 = .ok (.if_icmp .ge 16, 3) := by decide +kernel
theorem zd_Ref_bag_17 : decode prog_13_method_5_code 17 = .ok (.aload_n 0, 1) := by decide +kernel
theorem zd_Ref_bag_18 : decode prog_13_method_5_code 18 = .ok (.getfield 16, 3) := by decide +kernel
theorem zd_Ref_bag_21 : decode prog_13_method_5_code 21 = .ok (.iload_n 3, 1) := by decide +kernel
theorem zd_Ref_bag_22 : decode prog_13_method_5_code 22 = .ok (.iconst 0, 1) := by decide +kernel
theorem zd_Ref_bag_23 : decode prog_13_method_5_code 23 = .ok (.iastore, 1) := by decide +kernel
theorem zd_Ref_bag_24 : decode prog_13_method_5_code 24 = .ok (.iinc 3 1, 3) := by decide +kernel
theorem zd_Ref_bag_27 : decode prog_13_method_5_code 27 = .ok (.goto (-16), 3) := by decide +kernel
theorem zd_Ref_bag_30 : decode prog_13_method_5_code 30 = .ok (.lload_n 1, 1) := by decide +kernel
theorem zd_Ref_bag_31 : decode prog_13_method_5_code 31 = .ok (.lstore_n 3, 1) := by decide +kernel
theorem zd_Ref_bag_32 : decode prog_13_method_5_code 32 = .ok (.iconst 0, 1) := by decide +kernel
theorem zd_Ref_bag_33 : decode prog_13_method_5_code 33 = .ok (.istore 5, 2) := by decide +kernel
theorem zd_Ref_bag_35 : decode prog_13_method_5_code 35 = .ok (.iload 5, 2) := by decide +kernel
theorem zd_Ref_bag_37 : decode prog_13_method_5_code 37 = .ok (.aload_n 0, 1) := by decide +kernel
theorem zd_Ref_bag_38 : decode prog_13_method_5_code 38 = .ok (.getfield 76, 3) := by decide +kernel
theorem zd_Ref_bag_41 : decode prog_13_method_5_code 41 = .ok (.if_icmp .ge 77, 3) := by decide +kernel
theorem zd_Ref_bag_44 : decode prog_13_method_5_code 44 = .ok (.bipush 32, 2) := by decide +kernel
theorem zd_Ref_bag_46 : decode prog_13_method_5_code 46 = .ok (.istore 6, 2) := by decide +kernel
theorem zd_Ref_bag_48 : decode prog_13_method_5_code 48 = .ok (.iconst 0, 1) := by decide +kernel
theorem zd_Ref_bag_49 : decode prog_13_method_5_code 49 = .ok (.istore 7, 2) := by decide +kernel
theorem zd_Ref_bag_51 : decode prog_13_method_5_code 51 = .ok (.iload 7, 2) := by decide +kernel
theorem zd_Ref_bag_53 : decode prog_13_method_5_code 53 = .ok (.bipush 8, 2) := by decide +kernel
theorem zd_Ref_bag_55 : decode prog_13_method_5_code 55 = .ok (.if_icmp .ge 41, 3) := by decide +kernel
theorem zd_Ref_bag_58 : decode prog_13_method_5_code 58 = .ok (.iload 6, 2) := by decide +kernel
theorem zd_Ref_bag_60 : decode prog_13_method_5_code 60 = .ok (.bipush 32, 2) := by decide +kernel
theorem zd_Ref_bag_62 : decode prog_13_method_5_code 62 = .ok (.bipush 32, 2) := by decide +kernel
theorem zd_Ref_bag_64 : decode prog_13_method_5_code 64 = .ok (.aload_n 0, 1) := by decide +kernel
theorem zd_Ref_bag_65 : decode prog_13_method_5_code 65 = .ok (.getfield 76, 3) := by decide +kernel
theorem zd_Ref_bag_68 : decode prog_13_method_5_code 68 = .ok (.irem, 1) := by decide +kernel
theorem zd_Ref_bag_69 : decode prog_13_method_5_code 69 = .ok (.isub, 1) := by decide +kernel
theorem zd_Ref_bag_70 : decode prog_13_method_5_code 70 = .ok (.if_icmp .lt 26, 3) := by decide +kernel
theorem zd_Ref_bag_73 : decode prog_13_method_5_code 73 = .ok (.lload_n 3, 1) := by decide +kernel
theorem zd_Ref_bag_74 : decode prog_13_method_5_code 74 = .ok (.ldc2_w 89, 3) := by decide +kernel
theorem zd_Ref_bag_77 : decode prog_13_method_5_code 77 = .ok (.lmul, 1) := by decide +kernel
theorem zd_Ref_bag_78 : decode prog_13_method_5_code 78 = .ok (.ldc2_w 91, 3) := by decide +kernel
theorem zd_Ref_bag_81 : decode prog_13_method_5_code 81 = .ok (.ladd, 1) := by decide +kernel
theorem zd_Ref_bag_82 : decode prog_13_method_5_code 82 = .ok (.lstore_n 3, 1) := by decide +kernel
theorem zd_Ref_bag_83 : decode prog_13_method_5_code 83 = .ok (.lload_n 3, 1) := by decide +kernel
theorem zd_Ref_bag_84 : decode prog_13_method_5_code 84 = .ok (.bipush 59, 2) := by decide +kernel
theorem zd_Ref_bag_86 : decode prog_13_method_5_code 86 = .ok (.lushr, 1) := by decide +kernel
theorem zd_Ref_bag_87 : decode prog_13_method_5_code 87 = .ok (.l2i, 1) := by decide +kernel
theorem zd_Ref_bag_88 : decode prog_13_method_5_code 88 = .ok (.istore 6, 2) := by decide +kernel
theorem zd_Ref_bag_90 : decode prog_13_method_5_code 90 = .ok (.iinc 7 1, 3) := by decide +kernel
theorem zd_Ref_bag_93 : decode prog_13_method_5_code 93 = .ok (.goto (-42), 3) := by decide +kernel
theorem zd_Ref_bag_96 : decode prog_13_method_5_code 96 = .ok (.aload_n 0, 1) := by decide +kernel
theorem zd_Ref_bag_97 : decode prog_13_method_5_code 97 = .ok (.getfield 16, 3) := by decide +kernel
theorem zd_Ref_bag_100 : decode prog_13_method_5_code 100 = .ok (.iload 6, 2) := by decide +kernel
theorem zd_Ref_bag_102 : decode prog_13_method_5_code 102 = .ok (.aload_n 0, 1) := by decide +kernel
theorem zd_Ref_bag_103 : decode prog_13_method_5_code 103 = .ok (.getfield 76, 3) := by decide +kernel
theorem zd_Ref_bag_106 : decode prog_13_method_5_code 106 = .ok (.irem, 1) := by decide +kernel
theorem zd_Ref_bag_107 : decode prog_13_method_5_code 107 = .ok (.dup2, 1) := by decide +kernel
theorem zd_Ref_bag_108 : decode prog_13_method_5_code 108 = .ok (.iaload, 1) := by decide +kernel
theorem zd_Ref_bag_109 : decode prog_13_method_5_code 109 = .ok (.iconst 1, 1) := by decide +kernel
theorem zd_Ref_bag_110 : decode prog_13_method_5_code 110 = .ok (.iadd, 1) := by decide +kernel
theorem zd_Ref_bag_111 : decode prog_13_method_5_code 111 = .ok (.iastore, 1) := by decide +kernel
theorem zd_Ref_bag_112 : decode prog_13_method_5_code 112 = .ok (.iinc 5 1, 3) := by decide +kernel
theorem zd_Ref_bag_115 : decode prog_13_method_5_code 115 = .ok (.goto (-80), 3) := by decide +kernel
theorem zd_Ref_bag_118 : decode prog_13_method_5_code 118 = .ok (.aload_n 0, 1) := by decide +kernel
theorem zd_Ref_bag_119 : decode prog_13_method_5_code 119 = .ok (.invokevirtual 73, 3) := by decide +kernel
theorem zd_Ref_bag_122 : decode prog_13_method_5_code 122 = .ok (.iconst 0, 1) := by decide +kernel
theorem zd_Ref_bag_123 : decode prog_13_method_5_code 123 = .ok (.istore 5, 2) := by decide +kernel
theorem zd_Ref_bag_125 : decode prog_13_method_5_code 125 = .ok (.iconst 0, 1) := by decide +kernel
theorem zd_Ref_bag_126 : decode prog_13_method_5_code 126 = .ok (.istore 6, 2) := by decide +kernel
theorem zd_Ref_bag_128 : decode prog_13_method_5_code 128 = .ok (.iload 6, 2) := by decide +kernel
theorem zd_Ref_bag_130 : decode prog_13_method_5_code 130 = .ok (.aload_n 0, 1) := by decide +kernel
theorem zd_Ref_bag_131 : decode prog_13_method_5_code 131 = .ok (.getfield 76, 3) := by decide +kernel
theorem zd_Ref_bag_134 : decode prog_13_method_5_code 134 = .ok (.if_icmp .ge 30, 3) := by decide +kernel
theorem zd_Ref_bag_137 : decode prog_13_method_5_code 137 = .ok (.aload_n 0, 1) := by decide +kernel
theorem zd_Ref_bag_138 : decode prog_13_method_5_code 138 = .ok (.getfield 16, 3) := by decide +kernel
theorem zd_Ref_bag_141 : decode prog_13_method_5_code 141 = .ok (.iload 6, 2) := by decide +kernel
theorem zd_Ref_bag_143 : decode prog_13_method_5_code 143 = .ok (.iaload, 1) := by decide +kernel
theorem zd_Ref_bag_144 : decode prog_13_method_5_code 144 = .ok (.ifCond .ne 10, 3) := by decide +kernel
theorem zd_Ref_bag_147 : decode prog_13_method_5_code 147 = .ok (.iload 5, 2) := by decide +kernel
theorem zd_Ref_bag_149 : decode prog_13_method_5_code 149 = .ok (.iconst 1, 1) := by decide +kernel
theorem zd_Ref_bag_150 : decode prog_13_method_5_code 150 = .ok (.iadd, 1) := by decide +kernel
theorem zd_Ref_bag_151 : decode prog_13_method_5_code 151 = .ok (.goto 5, 3) := by decide +kernel
theorem zd_Ref_bag_154 : decode prog_13_method_5_code 154 = .ok (.iload 5, 2) := by decide +kernel
theorem zd_Ref_bag_156 : decode prog_13_method_5_code 156 = .ok (.istore 5, 2) := by decide +kernel
theorem zd_Ref_bag_158 : decode prog_13_method_5_code 158 = .ok (.iinc 6 1, 3) := by decide +kernel
theorem zd_Ref_bag_161 : decode prog_13_method_5_code 161 = .ok (.goto (-33), 3) := by decide +kernel
theorem zd_Ref_bag_164 : decode prog_13_method_5_code 164 = .ok (.iload 5, 2) := by decide +kernel
theorem zd_Ref_bag_166 : decode prog_13_method_5_code 166 = .ok (.ireturn, 1) := by decide +kernel
def zm_Ref_weight : zg_M := (⟨"SurrogateTreeModel", "weight", "(I)I"⟩, prog_13_method_7_code, 2, (some .int))
theorem zd_Ref_weight_0 : decode prog_13_method_7_code 0 = .ok (.iload_n 1, 1) := by decide +kernel
theorem zd_Ref_weight_1 : decode prog_13_method_7_code 1 = .ok (.ifCond .lt 11, 3) := by decide +kernel
theorem zd_Ref_weight_4 : decode prog_13_method_7_code 4 = .ok (.iload_n 1, 1) := by decide +kernel
theorem zd_Ref_weight_5 : decode prog_13_method_7_code 5 = .ok (.aload_n 0, 1) := by decide +kernel
theorem zd_Ref_weight_6 : decode prog_13_method_7_code 6 = .ok (.getfield 76, 3) := by decide +kernel
theorem zd_Ref_weight_9 : decode prog_13_method_7_code 9 = .ok (.if_icmp .lt 7, 3) := by decide +kernel
theorem zd_Ref_weight_12 : decode prog_13_method_7_code 12 = .ok (.iconst (-1), 1) := by decide +kernel
theorem zd_Ref_weight_13 : decode prog_13_method_7_code 13 = .ok (.goto 9, 3) := by decide +kernel
theorem zd_Ref_weight_16 : decode prog_13_method_7_code 16 = .ok (.aload_n 0, 1) := by decide +kernel
theorem zd_Ref_weight_17 : decode prog_13_method_7_code 17 = .ok (.getfield 16, 3) := by decide +kernel
theorem zd_Ref_weight_20 : decode prog_13_method_7_code 20 = .ok (.iload_n 1, 1) := by decide +kernel
theorem zd_Ref_weight_21 : decode prog_13_method_7_code 21 = .ok (.iaload, 1) := by decide +kernel
theorem zd_Ref_weight_22 : decode prog_13_method_7_code 22 = .ok (.ireturn, 1) := by decide +kernel
def zm_Ref_grow : zg_M := (⟨"SurrogateTreeModel", "grow", "(I)I"⟩, prog_13_method_26_code, 3, (some .int))
theorem zd_Ref_grow_0 : decode prog_13_method_26_code 0 = .ok (.iload_n 1, 1) := by decide +kernel
theorem zd_Ref_grow_1 : decode prog_13_method_26_code 1 = .ok (.iconst 1, 1) := by decide +kernel
theorem zd_Ref_grow_2 : decode prog_13_method_26_code 2 = .ok (.if_icmp .lt 8, 3) := by decide +kernel
theorem zd_Ref_grow_5 : decode prog_13_method_26_code 5 = .ok (.iload_n 1, 1) := by decide +kernel
theorem zd_Ref_grow_6 : decode prog_13_method_26_code 6 = .ok (.iconst 3, 1) := by decide +kernel
theorem zd_Ref_grow_7 : decode prog_13_method_26_code 7 = .ok (.if_icmp .le 5, 3) := by decide +kernel
theorem zd_Ref_grow_10 : decode prog_13_method_26_code 10 = .ok (.iconst (-1), 1) := by decide +kernel
theorem zd_Ref_grow_11 : decode prog_13_method_26_code 11 = .ok (.ireturn, 1) := by decide +kernel
theorem zd_Ref_grow_12 : decode prog_13_method_26_code 12 = .ok (.iconst 0, 1) := by decide +kernel
theorem zd_Ref_grow_13 : decode prog_13_method_26_code 13 = .ok (.istore_n 2, 1) := by decide +kernel
theorem zd_Ref_grow_14 : decode prog_13_method_26_code 14 = .ok (.iload_n 2, 1) := by decide +kernel
theorem zd_Ref_grow_15 : decode prog_13_method_26_code 15 = .ok (.iload_n 1, 1) := by decide +kernel
theorem zd_Ref_grow_16 : decode prog_13_method_26_code 16 = .ok (.if_icmp .ge 24, 3) := by decide +kernel
theorem zd_Ref_grow_19 : decode prog_13_method_26_code 19 = .ok (.aload_n 0, 1) := by decide +kernel
theorem zd_Ref_grow_20 : decode prog_13_method_26_code 20 = .ok (.invokevirtual 173, 3) := by decide +kernel
theorem zd_Ref_grow_23 : decode prog_13_method_26_code 23 = .ok (.ifCond .le 17, 3) := by decide +kernel
theorem zd_Ref_grow_26 : decode prog_13_method_26_code 26 = .ok (.aload_n 0, 1) := by decide +kernel
theorem zd_Ref_grow_27 : decode prog_13_method_26_code 27 = .ok (.aload_n 0, 1) := by decide +kernel
theorem zd_Ref_grow_28 : decode prog_13_method_26_code 28 = .ok (.invokevirtual 173, 3) := by decide +kernel
theorem zd_Ref_grow_31 : decode prog_13_method_26_code 31 = .ok (.invokevirtual 177, 3) := by decide +kernel
theorem zd_Ref_grow_34 : decode prog_13_method_26_code 34 = .ok (.iinc 2 1, 3) := by decide +kernel
theorem zd_Ref_grow_37 : decode prog_13_method_26_code 37 = .ok (.goto (-23), 3) := by decide +kernel
theorem zd_Ref_grow_40 : decode prog_13_method_26_code 40 = .ok (.iload_n 2, 1) := by decide +kernel
theorem zd_Ref_grow_41 : decode prog_13_method_26_code 41 = .ok (.ireturn, 1) := by decide +kernel
def zm_Ref_waiting : zg_M := (⟨"SurrogateTreeModel", "waiting", "()I"⟩, prog_13_method_23_code, 3, (some .int))
theorem zd_Ref_waiting_0 : decode prog_13_method_23_code 0 = .ok (.iconst 0, 1) := by decide +kernel
theorem zd_Ref_waiting_1 : decode prog_13_method_23_code 1 = .ok (.istore_n 1, 1) := by decide +kernel
theorem zd_Ref_waiting_2 : decode prog_13_method_23_code 2 = .ok (.bipush 31, 2) := by decide +kernel
theorem zd_Ref_waiting_4 : decode prog_13_method_23_code 4 = .ok (.istore_n 2, 1) := by decide +kernel
theorem zd_Ref_waiting_5 : decode prog_13_method_23_code 5 = .ok (.iload_n 2, 1) := by decide +kernel
theorem zd_Ref_waiting_6 : decode prog_13_method_23_code 6 = .ok (.ifCond .le 25, 3) := by decide +kernel
theorem zd_Ref_waiting_9 : decode prog_13_method_23_code 9 = .ok (.aload_n 0, 1) := by decide +kernel
theorem zd_Ref_waiting_10 : decode prog_13_method_23_code 10 = .ok (.getfield 29, 3) := by decide +kernel
theorem zd_Ref_waiting_13 : decode prog_13_method_23_code 13 = .ok (.iload_n 2, 1) := by decide +kernel
theorem zd_Ref_waiting_14 : decode prog_13_method_23_code 14 = .ok (.iaload, 1) := by decide +kernel
theorem zd_Ref_waiting_15 : decode prog_13_method_23_code 15 = .ok (.iconst 1, 1) := by decide +kernel
theorem zd_Ref_waiting_16 : decode prog_13_method_23_code 16 = .ok (.if_icmp .ne 7, 3) := by decide +kernel
theorem zd_Ref_waiting_19 : decode prog_13_method_23_code 19 = .ok (.iload_n 2, 1) := by decide +kernel
theorem zd_Ref_waiting_20 : decode prog_13_method_23_code 20 = .ok (.goto 4, 3) := by decide +kernel
theorem zd_Ref_waiting_23 : decode prog_13_method_23_code 23 = .ok (.iload_n 1, 1) := by decide +kernel
theorem zd_Ref_waiting_24 : decode prog_13_method_23_code 24 = .ok (.istore_n 1, 1) := by decide +kernel
theorem zd_Ref_waiting_25 : decode prog_13_method_23_code 25 = .ok (.iinc 2 (-1), 3) := by decide +kernel
theorem zd_Ref_waiting_28 : decode prog_13_method_23_code 28 = .ok (.goto (-23), 3) := by decide +kernel
theorem zd_Ref_waiting_31 : decode prog_13_method_23_code 31 = .ok (.iload_n 1, 1) := by decide +kernel
theorem zd_Ref_waiting_32 : decode prog_13_method_23_code 32 = .ok (.ireturn, 1) := by decide +kernel
def zm_Ref_turn : zg_M := (⟨"SurrogateTreeModel", "turn", "(I)V"⟩, prog_13_method_25_code, 4, none)
theorem zd_Ref_turn_0 : decode prog_13_method_25_code 0 = .ok (.iload_n 1, 1) := by decide +kernel
theorem zd_Ref_turn_1 : decode prog_13_method_25_code 1 = .ok (.invokestatic 162, 3) := by decide +kernel
theorem zd_Ref_turn_4 : decode prog_13_method_25_code 4 = .ok (.aload_n 0, 1) := by decide +kernel
theorem zd_Ref_turn_5 : decode prog_13_method_25_code 5 = .ok (.getfield 22, 3) := by decide +kernel
theorem zd_Ref_turn_8 : decode prog_13_method_25_code 8 = .ok (.if_icmp .eq 11, 3) := by decide +kernel
theorem zd_Ref_turn_11 : decode prog_13_method_25_code 11 = .ok (.aload_n 0, 1) := by decide +kernel
theorem zd_Ref_turn_12 : decode prog_13_method_25_code 12 = .ok (.iload_n 1, 1) := by decide +kernel
theorem zd_Ref_turn_13 : decode prog_13_method_25_code 13 = .ok (.invokevirtual 165, 3) := by decide +kernel
theorem zd_Ref_turn_16 : decode prog_13_method_25_code 16 = .ok (.ifCond .ne 11, 3) := by decide +kernel
theorem zd_Ref_turn_19 : decode prog_13_method_25_code 19 = .ok (.aload_n 0, 1) := by decide +kernel
theorem zd_Ref_turn_20 : decode prog_13_method_25_code 20 = .ok (.getfield 29, 3) := by decide +kernel
theorem zd_Ref_turn_23 : decode prog_13_method_25_code 23 = .ok (.iload_n 1, 1) := by decide +kernel
theorem zd_Ref_turn_24 : decode prog_13_method_25_code 24 = .ok (.iconst 2, 1) := by decide +kernel
theorem zd_Ref_turn_25 : decode prog_13_method_25_code 25 = .ok (.iastore, 1) := by decide +kernel
theorem zd_Ref_turn_26 : decode prog_13_method_25_code 26 = .ok (.return_, 1) := by decide +kernel
theorem zd_Ref_turn_27 : decode prog_13_method_25_code 27 = .ok (.aload_n 0, 1) := by decide +kernel
theorem zd_Ref_turn_28 : decode prog_13_method_25_code 28 = .ok (.getfield 29, 3) := by decide +kernel
theorem zd_Ref_turn_31 : decode prog_13_method_25_code 31 = .ok (.iload_n 1, 1) := by decide +kernel
theorem zd_Ref_turn_32 : decode prog_13_method_25_code 32 = .ok (.iconst 3, 1) := by decide +kernel
theorem zd_Ref_turn_33 : decode prog_13_method_25_code 33 = .ok (.iastore, 1) := by decide +kernel
theorem zd_Ref_turn_34 : decode prog_13_method_25_code 34 = .ok (.aload_n 0, 1) := by decide +kernel
theorem zd_Ref_turn_35 : decode prog_13_method_25_code 35 = .ok (.getfield 35, 3) := by decide +kernel
theorem zd_Ref_turn_38 : decode prog_13_method_25_code 38 = .ok (.iload_n 1, 1) := by decide +kernel
theorem zd_Ref_turn_39 : decode prog_13_method_25_code 39 = .ok (.aload_n 0, 1) := by decide +kernel
theorem zd_Ref_turn_40 : decode prog_13_method_25_code 40 = .ok (.getfield 115, 3) := by decide +kernel
theorem zd_Ref_turn_43 : decode prog_13_method_25_code 43 = .ok (.iastore, 1) := by decide +kernel
theorem zd_Ref_turn_44 : decode prog_13_method_25_code 44 = .ok (.aload_n 0, 1) := by decide +kernel
theorem zd_Ref_turn_45 : decode prog_13_method_25_code 45 = .ok (.getfield 38, 3) := by decide +kernel
theorem zd_Ref_turn_48 : decode prog_13_method_25_code 48 = .ok (.iload_n 1, 1) := by decide +kernel
theorem zd_Ref_turn_49 : decode prog_13_method_25_code 49 = .ok (.aload_n 0, 1) := by decide +kernel
theorem zd_Ref_turn_50 : decode prog_13_method_25_code 50 = .ok (.getfield 136, 3) := by decide +kernel
theorem zd_Ref_turn_53 : decode prog_13_method_25_code 53 = .ok (.iastore, 1) := by decide +kernel
theorem zd_Ref_turn_54 : decode prog_13_method_25_code 54 = .ok (.aload_n 0, 1) := by decide +kernel
theorem zd_Ref_turn_55 : decode prog_13_method_25_code 55 = .ok (.getfield 29, 3) := by decide +kernel
theorem zd_Ref_turn_58 : decode prog_13_method_25_code 58 = .ok (.iconst 2, 1) := by decide +kernel
theorem zd_Ref_turn_59 : decode prog_13_method_25_code 59 = .ok (.iload_n 1, 1) := by decide +kernel
theorem zd_Ref_turn_60 : decode prog_13_method_25_code 60 = .ok (.imul, 1) := by decide +kernel
theorem zd_Ref_turn_61 : decode prog_13_method_25_code 61 = .ok (.iconst 1, 1) := by decide +kernel
theorem zd_Ref_turn_62 : decode prog_13_method_25_code 62 = .ok (.iastore, 1) := by decide +kernel
theorem zd_Ref_turn_63 : decode prog_13_method_25_code 63 = .ok (.aload_n 0, 1) := by decide +kernel
theorem zd_Ref_turn_64 : decode prog_13_method_25_code 64 = .ok (.getfield 29, 3) := by decide +kernel
theorem zd_Ref_turn_67 : decode prog_13_method_25_code 67 = .ok (.iconst 2, 1) := by decide +kernel
theorem zd_Ref_turn_68 : decode prog_13_method_25_code 68 = .ok (.iload_n 1, 1) := by decide +kernel
theorem zd_Ref_turn_69 : decode prog_13_method_25_code 69 = .ok (.imul, 1) := by decide +kernel
theorem zd_Ref_turn_70 : decode prog_13_method_25_code 70 = .ok (.iconst 1, 1) := by decide +kernel
theorem zd_Ref_turn_71 : decode prog_13_method_25_code 71 = .ok (.iadd, 1) := by decide +kernel
theorem zd_Ref_turn_72 : decode prog_13_method_25_code 72 = .ok (.iconst 1, 1) := by decide +kernel
theorem zd_Ref_turn_73 : decode prog_13_method_25_code 73 = .ok (.iastore, 1) := by decide +kernel
theorem zd_Ref_turn_74 : decode prog_13_method_25_code 74 = .ok (.iconst 0, 1) := by decide +kernel
theorem zd_Ref_turn_75 : decode prog_13_method_25_code 75 = .ok (.istore_n 2, 1) := by decide +kernel
theorem zd_Ref_turn_76 : decode prog_13_method_25_code 76 = .ok (.iload_n 2, 1) := by decide +kernel
theorem zd_Ref_turn_77 : decode prog_13_method_25_code 77 = .ok (.aload_n 0, 1) := by decide +kernel
theorem zd_Ref_turn_78 : decode prog_13_method_25_code 78 = .ok (.getfield 76, 3) := by decide +kernel
theorem zd_Ref_turn_81 : decode prog_13_method_25_code 81 = .ok (.if_icmp .ge 68, 3) := by decide +kernel
theorem zd_Ref_turn_84 : decode prog_13_method_25_code 84 = .ok (.aload_n 0, 1) := by decide +kernel
theorem zd_Ref_turn_85 : decode prog_13_method_25_code 85 = .ok (.getfield 32, 3) := by decide +kernel
theorem zd_Ref_turn_88 : decode prog_13_method_25_code 88 = .ok (.iload_n 1, 1) := by decide +kernel
theorem zd_Ref_turn_89 : decode prog_13_method_25_code 89 = .ok (.iaload, 1) := by decide +kernel
theorem zd_Ref_turn_90 : decode prog_13_method_25_code 90 = .ok (.iload_n 2, 1) := by decide +kernel
theorem zd_Ref_turn_91 : decode prog_13_method_25_code 91 = .ok (.invokestatic 93, 3) := by decide +kernel
theorem zd_Ref_turn_94 : decode prog_13_method_25_code 94 = .ok (.ifCond .eq 49, 3) := by decide +kernel
theorem zd_Ref_turn_97 : decode prog_13_method_25_code 97 = .ok (.aload_n 0, 1) := by decide +kernel
theorem zd_Ref_turn_98 : decode prog_13_method_25_code 98 = .ok (.iload_n 1, 1) := by decide +kernel
theorem zd_Ref_turn_99 : decode prog_13_method_25_code 99 = .ok (.aload_n 0, 1) := by decide +kernel
theorem zd_Ref_turn_100 : decode prog_13_method_25_code 100 = .ok (.getfield 7, 3) := by decide +kernel
theorem zd_Ref_turn_103 : decode prog_13_method_25_code 103 = .ok (.iconst 3, 1) := by decide +kernel
theorem zd_Ref_turn_104 : decode prog_13_method_25_code 104 = .ok (.iload_n 2, 1) := by decide +kernel
theorem zd_Ref_turn_105 : decode prog_13_method_25_code 105 = .ok (.imul, 1) := by decide +kernel
theorem zd_Ref_turn_106 : decode prog_13_method_25_code 106 = .ok (.iaload, 1) := by decide +kernel
theorem zd_Ref_turn_107 : decode prog_13_method_25_code 107 = .ok (.aload_n 0, 1) := by decide +kernel
theorem zd_Ref_turn_108 : decode prog_13_method_25_code 108 = .ok (.getfield 7, 3) := by decide +kernel
theorem zd_Ref_turn_111 : decode prog_13_method_25_code 111 = .ok (.iconst 3, 1) := by decide +kernel
theorem zd_Ref_turn_112 : decode prog_13_method_25_code 112 = .ok (.iload_n 2, 1) := by decide +kernel
theorem zd_Ref_turn_113 : decode prog_13_method_25_code 113 = .ok (.imul, 1) := by decide +kernel
theorem zd_Ref_turn_114 : decode prog_13_method_25_code 114 = .ok (.iconst 1, 1) := by decide +kernel
theorem zd_Ref_turn_115 : decode prog_13_method_25_code 115 = .ok (.iadd, 1) := by decide +kernel
theorem zd_Ref_turn_116 : decode prog_13_method_25_code 116 = .ok (.iaload, 1) := by decide +kernel
theorem zd_Ref_turn_117 : decode prog_13_method_25_code 117 = .ok (.aload_n 0, 1) := by decide +kernel
theorem zd_Ref_turn_118 : decode prog_13_method_25_code 118 = .ok (.getfield 7, 3) := by decide +kernel
theorem zd_Ref_turn_121 : decode prog_13_method_25_code 121 = .ok (.iconst 3, 1) := by decide +kernel
theorem zd_Ref_turn_122 : decode prog_13_method_25_code 122 = .ok (.iload_n 2, 1) := by decide +kernel
theorem zd_Ref_turn_123 : decode prog_13_method_25_code 123 = .ok (.imul, 1) := by decide +kernel
theorem zd_Ref_turn_124 : decode prog_13_method_25_code 124 = .ok (.iconst 2, 1) := by decide +kernel
theorem zd_Ref_turn_125 : decode prog_13_method_25_code 125 = .ok (.iadd, 1) := by decide +kernel
theorem zd_Ref_turn_126 : decode prog_13_method_25_code 126 = .ok (.iaload, 1) := by decide +kernel
theorem zd_Ref_turn_127 : decode prog_13_method_25_code 127 = .ok (.invokevirtual 169, 3) := by decide +kernel
theorem zd_Ref_turn_130 : decode prog_13_method_25_code 130 = .ok (.istore_n 3, 1) := by decide +kernel
theorem zd_Ref_turn_131 : decode prog_13_method_25_code 131 = .ok (.aload_n 0, 1) := by decide +kernel
theorem zd_Ref_turn_132 : decode prog_13_method_25_code 132 = .ok (.getfield 32, 3) := by decide +kernel
theorem zd_Ref_turn_135 : decode prog_13_method_25_code 135 = .ok (.iload_n 3, 1) := by decide +kernel
theorem zd_Ref_turn_136 : decode prog_13_method_25_code 136 = .ok (.dup2, 1) := by decide +kernel
theorem zd_Ref_turn_137 : decode prog_13_method_25_code 137 = .ok (.iaload, 1) := by decide +kernel
theorem zd_Ref_turn_138 : decode prog_13_method_25_code 138 = .ok (.iconst 1, 1) := by decide +kernel
theorem zd_Ref_turn_139 : decode prog_13_method_25_code 139 = .ok (.iload_n 2, 1) := by decide +kernel
theorem zd_Ref_turn_140 : decode prog_13_method_25_code 140 = .ok (.ishl, 1) := by decide +kernel
theorem zd_Ref_turn_141 : decode prog_13_method_25_code 141 = .ok (.ior, 1) := by decide +kernel
theorem zd_Ref_turn_142 : decode prog_13_method_25_code 142 = .ok (.iastore, 1) := by decide +kernel
theorem zd_Ref_turn_143 : decode prog_13_method_25_code 143 = .ok (.iinc 2 1, 3) := by decide +kernel
theorem zd_Ref_turn_146 : decode prog_13_method_25_code 146 = .ok (.goto (-70), 3) := by decide +kernel
theorem zd_Ref_turn_149 : decode prog_13_method_25_code 149 = .ok (.return_, 1) := by decide +kernel
def zm_Ref_depthOf : zg_M := (⟨"SurrogateTreeModel", "depthOf", "(I)I"⟩, prog_13_method_24_code, 1, (some .int))
theorem zd_Ref_depthOf_0 : decode prog_13_method_24_code 0 = .ok (.iload_n 0, 1) := by decide +kernel
theorem zd_Ref_depthOf_1 : decode prog_13_method_24_code 1 = .ok (.bipush 16, 2) := by decide +kernel
theorem zd_Ref_depthOf_3 : decode prog_13_method_24_code 3 = .ok (.if_icmp .lt 7, 3) := by decide +kernel
theorem zd_Ref_depthOf_6 : decode prog_13_method_24_code 6 = .ok (.iconst 4, 1) := by decide +kernel
theorem zd_Ref_depthOf_7 : decode prog_13_method_24_code 7 = .ok (.goto 32, 3) := by decide +kernel
theorem zd_Ref_depthOf_10 : decode prog_13_method_24_code 10 = .ok (.iload_n 0, 1) := by decide +kernel
theorem zd_Ref_depthOf_11 : decode prog_13_method_24_code 11 = .ok (.bipush 8, 2) := by decide +kernel
theorem zd_Ref_depthOf_13 : decode prog_13_method_24_code 13 = .ok (.if_icmp .lt 7, 3) := by decide +kernel
theorem zd_Ref_depthOf_16 : decode prog_13_method_24_code 16 = .ok (.iconst 3, 1) := by decide +kernel
theorem zd_Ref_depthOf_17 : decode prog_13_method_24_code 17 = .ok (.goto 22, 3) := by decide +kernel
theorem zd_Ref_depthOf_20 : decode prog_13_method_24_code 20 = .ok (.iload_n 0, 1) := by decide +kernel
theorem zd_Ref_depthOf_21 : decode prog_13_method_24_code 21 = .ok (.iconst 4, 1) := by decide +kernel
theorem zd_Ref_depthOf_22 : decode prog_13_method_24_code 22 = .ok (.if_icmp .lt 7, 3) := by decide +kernel
theorem zd_Ref_depthOf_25 : decode prog_13_method_24_code 25 = .ok (.iconst 2, 1) := by decide +kernel
theorem zd_Ref_depthOf_26 : decode prog_13_method_24_code 26 = .ok (.goto 13, 3) := by decide +kernel
theorem zd_Ref_depthOf_29 : decode prog_13_method_24_code 29 = .ok (.iload_n 0, 1) := by decide +kernel
theorem zd_Ref_depthOf_30 : decode prog_13_method_24_code 30 = .ok (.iconst 2, 1) := by decide +kernel
theorem zd_Ref_depthOf_31 : decode prog_13_method_24_code 31 = .ok (.if_icmp .lt 7, 3) := by decide +kernel
theorem zd_Ref_depthOf_34 : decode prog_13_method_24_code 34 = .ok (.iconst 1, 1) := by decide +kernel
theorem zd_Ref_depthOf_35 : decode prog_13_method_24_code 35 = .ok (.goto 4, 3) := by decide +kernel
theorem zd_Ref_depthOf_38 : decode prog_13_method_24_code 38 = .ok (.iconst 0, 1) := by decide +kernel
theorem zd_Ref_depthOf_39 : decode prog_13_method_24_code 39 = .ok (.ireturn, 1) := by decide +kernel
def zm_Ref_seek : zg_M := (⟨"SurrogateTreeModel", "seek", "(I)Z"⟩, prog_13_method_18_code, 13, (some .boolean))
theorem zd_Ref_seek_0 : decode prog_13_method_18_code 0 = .ok (.iconst 0, 1) := by decide +kernel
theorem zd_Ref_seek_1 : decode prog_13_method_18_code 1 = .ok (.istore_n 2, 1) := by decide +kernel
theorem zd_Ref_seek_2 : decode prog_13_method_18_code 2 = .ok (.iconst 1, 1) := by decide +kernel
theorem zd_Ref_seek_3 : decode prog_13_method_18_code 3 = .ok (.istore_n 3, 1) := by decide +kernel
theorem zd_Ref_seek_4 : decode prog_13_method_18_code 4 = .ok (.aload_n 0, 1) := by decide +kernel
theorem zd_Ref_seek_5 : decode prog_13_method_18_code 5 = .ok (.iconst (-1), 1) := by decide +kernel
theorem zd_Ref_seek_6 : decode prog_13_method_18_code 6 = .ok (.putfield 115, 3) := by decide +kernel
theorem zd_Ref_seek_9 : decode prog_13_method_18_code 9 = .ok (.iconst 0, 1) := by decide +kernel
theorem zd_Ref_seek_10 : decode prog_13_method_18_code 10 = .ok (.istore 4, 2) := by decide +kernel
theorem zd_Ref_seek_12 : decode prog_13_method_18_code 12 = .ok (.iload 4, 2) := by decide +kernel
theorem zd_Ref_seek_14 : decode prog_13_method_18_code 14 = .ok (.iconst 3, 1) := by decide +kernel
theorem zd_Ref_seek_15 : decode prog_13_method_18_code 15 = .ok (.if_icmp .ge 226, 3) := by decide +kernel
theorem zd_Ref_seek_18 : decode prog_13_method_18_code 18 = .ok (.aload_n 0, 1) := by decide +kernel
theorem zd_Ref_seek_19 : decode prog_13_method_18_code 19 = .ok (.aload_n 0, 1) := by decide +kernel
theorem zd_Ref_seek_20 : decode prog_13_method_18_code 20 = .ok (.getfield 32, 3) := by decide +kernel
theorem zd_Ref_seek_23 : decode prog_13_method_18_code 23 = .ok (.iload_n 1, 1) := by decide +kernel
theorem zd_Ref_seek_24 : decode prog_13_method_18_code 24 = .ok (.iaload, 1) := by decide +kernel
theorem zd_Ref_seek_25 : decode prog_13_method_18_code 25 = .ok (.iload 4, 2) := by decide +kernel
theorem zd_Ref_seek_27 : decode prog_13_method_18_code 27 = .ok (.invokevirtual 118, 3) := by decide +kernel
theorem zd_Ref_seek_30 : decode prog_13_method_18_code 30 = .ok (.istore 5, 2) := by decide +kernel
theorem zd_Ref_seek_32 : decode prog_13_method_18_code 32 = .ok (.iconst 0, 1) := by decide +kernel
theorem zd_Ref_seek_33 : decode prog_13_method_18_code 33 = .ok (.istore 6, 2) := by decide +kernel
theorem zd_Ref_seek_35 : decode prog_13_method_18_code 35 = .ok (.iload 6, 2) := by decide +kernel
theorem zd_Ref_seek_37 : decode prog_13_method_18_code 37 = .ok (.sipush 256, 3) := by decide +kernel
theorem zd_Ref_seek_40 : decode prog_13_method_18_code 40 = .ok (.if_icmp .ge 195, 3) := by decide +kernel
theorem zd_Ref_seek_43 : decode prog_13_method_18_code 43 = .ok (.iload 6, 2) := by decide +kernel
theorem zd_Ref_seek_45 : decode prog_13_method_18_code 45 = .ok (.iconst 4, 1) := by decide +kernel
theorem zd_Ref_seek_46 : decode prog_13_method_18_code 46 = .ok (.ishr, 1) := by decide +kernel
theorem zd_Ref_seek_47 : decode prog_13_method_18_code 47 = .ok (.istore 7, 2) := by decide +kernel
theorem zd_Ref_seek_49 : decode prog_13_method_18_code 49 = .ok (.iload 6, 2) := by decide +kernel
theorem zd_Ref_seek_51 : decode prog_13_method_18_code 51 = .ok (.bipush 15, 2) := by decide +kernel
theorem zd_Ref_seek_53 : decode prog_13_method_18_code 53 = .ok (.iand, 1) := by decide +kernel
theorem zd_Ref_seek_54 : decode prog_13_method_18_code 54 = .ok (.istore 8, 2) := by decide +kernel
theorem zd_Ref_seek_56 : decode prog_13_method_18_code 56 = .ok (.iload 7, 2) := by decide +kernel
theorem zd_Ref_seek_58 : decode prog_13_method_18_code 58 = .ok (.aload_n 0, 1) := by decide +kernel
theorem zd_Ref_seek_59 : decode prog_13_method_18_code 59 = .ok (.getfield 76, 3) := by decide +kernel
theorem zd_Ref_seek_62 : decode prog_13_method_18_code 62 = .ok (.if_icmp .ge 167, 3) := by decide +kernel
theorem zd_Ref_seek_65 : decode prog_13_method_18_code 65 = .ok (.iload 8, 2) := by decide +kernel
theorem zd_Ref_seek_67 : decode prog_13_method_18_code 67 = .ok (.aload_n 0, 1) := by decide +kernel
theorem zd_Ref_seek_68 : decode prog_13_method_18_code 68 = .ok (.getfield 76, 3) := by decide +kernel
theorem zd_Ref_seek_71 : decode prog_13_method_18_code 71 = .ok (.if_icmp .ge 158, 3) := by decide +kernel
theorem zd_Ref_seek_74 : decode prog_13_method_18_code 74 = .ok (.aload_n 0, 1) := by decide +kernel
theorem zd_Ref_seek_75 : decode prog_13_method_18_code 75 = .ok (.iload 5, 2) := by decide +kernel
theorem zd_Ref_seek_77 : decode prog_13_method_18_code 77 = .ok (.iload 4, 2) := by decide +kernel
theorem zd_Ref_seek_79 : decode prog_13_method_18_code 79 = .ok (.iload 7, 2) := by decide +kernel
theorem zd_Ref_seek_81 : decode prog_13_method_18_code 81 = .ok (.iload 8, 2) := by decide +kernel
theorem zd_Ref_seek_83 : decode prog_13_method_18_code 83 = .ok (.invokevirtual 121, 3) := by decide +kernel
theorem zd_Ref_seek_86 : decode prog_13_method_18_code 86 = .ok (.ifCond .ne 6, 3) := by decide +kernel
theorem zd_Ref_seek_89 : decode prog_13_method_18_code 89 = .ok (.goto 140, 3) := by decide +kernel
theorem zd_Ref_seek_92 : decode prog_13_method_18_code 92 = .ok (.aload_n 0, 1) := by decide +kernel
theorem zd_Ref_seek_93 : decode prog_13_method_18_code 93 = .ok (.iload 4, 2) := by decide +kernel
theorem zd_Ref_seek_95 : decode prog_13_method_18_code 95 = .ok (.iload 7, 2) := by decide +kernel
theorem zd_Ref_seek_97 : decode prog_13_method_18_code 97 = .ok (.iload 8, 2) := by decide +kernel
theorem zd_Ref_seek_99 : decode prog_13_method_18_code 99 = .ok (.invokevirtual 125, 3) := by decide +kernel
theorem zd_Ref_seek_102 : decode prog_13_method_18_code 102 = .ok (.istore 9, 2) := by decide +kernel
theorem zd_Ref_seek_104 : decode prog_13_method_18_code 104 = .ok (.aload_n 0, 1) := by decide +kernel
theorem zd_Ref_seek_105 : decode prog_13_method_18_code 105 = .ok (.iload 5, 2) := by decide +kernel
theorem zd_Ref_seek_107 : decode prog_13_method_18_code 107 = .ok (.iload 4, 2) := by decide +kernel
theorem zd_Ref_seek_109 : decode prog_13_method_18_code 109 = .ok (.iload 9, 2) := by decide +kernel
theorem zd_Ref_seek_111 : decode prog_13_method_18_code 111 = .ok (.invokevirtual 129, 3) := by decide +kernel
theorem zd_Ref_seek_114 : decode prog_13_method_18_code 114 = .ok (.istore 10, 2) := by decide +kernel
theorem zd_Ref_seek_116 : decode prog_13_method_18_code 116 = .ok (.iload 5, 2) := by decide +kernel
theorem zd_Ref_seek_118 : decode prog_13_method_18_code 118 = .ok (.iload 10, 2) := by decide +kernel
theorem zd_Ref_seek_120 : decode prog_13_method_18_code 120 = .ok (.iconst (-1), 1) := by decide +kernel
theorem zd_Ref_seek_121 : decode prog_13_method_18_code 121 = .ok (.ixor, 1) := by decide +kernel
theorem zd_Ref_seek_122 : decode prog_13_method_18_code 122 = .ok (.iand, 1) := by decide +kernel
theorem zd_Ref_seek_123 : decode prog_13_method_18_code 123 = .ok (.istore 11, 2) := by decide +kernel
theorem zd_Ref_seek_125 : decode prog_13_method_18_code 125 = .ok (.aload_n 0, 1) := by decide +kernel
theorem zd_Ref_seek_126 : decode prog_13_method_18_code 126 = .ok (.iload 10, 2) := by decide +kernel
theorem zd_Ref_seek_128 : decode prog_13_method_18_code 128 = .ok (.iconst (-1), 1) := by decide +kernel
theorem zd_Ref_seek_129 : decode prog_13_method_18_code 129 = .ok (.invokevirtual 98, 3) := by decide +kernel
theorem zd_Ref_seek_132 : decode prog_13_method_18_code 132 = .ok (.aload_n 0, 1) := by decide +kernel
theorem zd_Ref_seek_133 : decode prog_13_method_18_code 133 = .ok (.getfield 26, 3) := by decide +kernel
theorem zd_Ref_seek_136 : decode prog_13_method_18_code 136 = .ok (.if_icmp .lt 93, 3) := by decide +kernel
theorem zd_Ref_seek_139 : decode prog_13_method_18_code 139 = .ok (.aload_n 0, 1) := by decide +kernel
theorem zd_Ref_seek_140 : decode prog_13_method_18_code 140 = .ok (.iload 11, 2) := by decide +kernel
theorem zd_Ref_seek_142 : decode prog_13_method_18_code 142 = .ok (.iconst (-1), 1) := by decide +kernel
theorem zd_Ref_seek_143 : decode prog_13_method_18_code 143 = .ok (.invokevirtual 98, 3) := by decide +kernel
theorem zd_Ref_seek_146 : decode prog_13_method_18_code 146 = .ok (.aload_n 0, 1) := by decide +kernel
theorem zd_Ref_seek_147 : decode prog_13_method_18_code 147 = .ok (.getfield 26, 3) := by decide +kernel
theorem zd_Ref_seek_150 : decode prog_13_method_18_code 150 = .ok (.if_icmp .ge 6, 3) := by decide +kernel
theorem zd_Ref_seek_153 : decode prog_13_method_18_code 153 = .ok (.goto 76, 3) := by decide +kernel
theorem zd_Ref_seek_156 : decode prog_13_method_18_code 156 = .ok (.aload_n 0, 1) := by decide +kernel
theorem zd_Ref_seek_157 : decode prog_13_method_18_code 157 = .ok (.iload 10, 2) := by decide +kernel
theorem zd_Ref_seek_159 : decode prog_13_method_18_code 159 = .ok (.iload 11, 2) := by decide +kernel
theorem zd_Ref_seek_161 : decode prog_13_method_18_code 161 = .ok (.invokevirtual 132, 3) := by decide +kernel
theorem zd_Ref_seek_164 : decode prog_13_method_18_code 164 = .ok (.aload_n 0, 1) := by decide +kernel
theorem zd_Ref_seek_165 : decode prog_13_method_18_code 165 = .ok (.getfield 109, 3) := by decide +kernel
theorem zd_Ref_seek_168 : decode prog_13_method_18_code 168 = .ok (.iload_n 3, 1) := by decide +kernel
theorem zd_Ref_seek_169 : decode prog_13_method_18_code 169 = .ok (.imul, 1) := by decide +kernel
theorem zd_Ref_seek_170 : decode prog_13_method_18_code 170 = .ok (.iload_n 2, 1) := by decide +kernel
theorem zd_Ref_seek_171 : decode prog_13_method_18_code 171 = .ok (.aload_n 0, 1) := by decide +kernel
theorem zd_Ref_seek_172 : decode prog_13_method_18_code 172 = .ok (.getfield 112, 3) := by decide +kernel
theorem zd_Ref_seek_175 : decode prog_13_method_18_code 175 = .ok (.imul, 1) := by decide +kernel
theorem zd_Ref_seek_176 : decode prog_13_method_18_code 176 = .ok (.isub, 1) := by decide +kernel
theorem zd_Ref_seek_177 : decode prog_13_method_18_code 177 = .ok (.istore 12, 2) := by decide +kernel
theorem zd_Ref_seek_179 : decode prog_13_method_18_code 179 = .ok (.iload 12, 2) := by decide +kernel
theorem zd_Ref_seek_181 : decode prog_13_method_18_code 181 = .ok (.ifCond .gt 26, 3) := by decide +kernel
theorem zd_Ref_seek_184 : decode prog_13_method_18_code 184 = .ok (.iload 12, 2) := by decide +kernel
theorem zd_Ref_seek_186 : decode prog_13_method_18_code 186 = .ok (.ifCond .ne 43, 3) := by decide +kernel
theorem zd_Ref_seek_189 : decode prog_13_method_18_code 189 = .ok (.aload_n 0, 1) := by decide +kernel
theorem zd_Ref_seek_190 : decode prog_13_method_18_code 190 = .ok (.getfield 115, 3) := by decide +kernel
theorem zd_Ref_seek_193 : decode prog_13_method_18_code 193 = .ok (.iload 4, 2) := by decide +kernel
theorem zd_Ref_seek_195 : decode prog_13_method_18_code 195 = .ok (.if_icmp .ne 34, 3) := by decide +kernel
theorem zd_Ref_seek_198 : decode prog_13_method_18_code 198 = .ok (.iload 9, 2) := by decide +kernel
theorem zd_Ref_seek_200 : decode prog_13_method_18_code 200 = .ok (.aload_n 0, 1) := by decide +kernel
theorem zd_Ref_seek_201 : decode prog_13_method_18_code 201 = .ok (.getfield 136, 3) := by decide +kernel
theorem zd_Ref_seek_204 : decode prog_13_method_18_code 204 = .ok (.if_icmp .ge 25, 3) := by decide +kernel
theorem zd_Ref_seek_207 : decode prog_13_method_18_code 207 = .ok (.aload_n 0, 1) := by decide +kernel
theorem zd_Ref_seek_208 : decode prog_13_method_18_code 208 = .ok (.getfield 109, 3) := by decide +kernel
theorem zd_Ref_seek_211 : decode prog_13_method_18_code 211 = .ok (.istore_n 2, 1) := by decide +kernel
theorem zd_Ref_seek_212 : decode prog_13_method_18_code 212 = .ok (.aload_n 0, 1) := by decide +kernel
theorem zd_Ref_seek_213 : decode prog_13_method_18_code 213 = .ok (.getfield 112, 3) := by decide +kernel
theorem zd_Ref_seek_216 : decode prog_13_method_18_code 216 = .ok (.istore_n 3, 1) := by decide +kernel
theorem zd_Ref_seek_217 : decode prog_13_method_18_code 217 = .ok (.aload_n 0, 1) := by decide +kernel
theorem zd_Ref_seek_218 : decode prog_13_method_18_code 218 = .ok (.iload 4, 2) := by decide +kernel
theorem zd_Ref_seek_220 : decode prog_13_method_18_code 220 = .ok (.putfield 115, 3) := by decide +kernel
theorem zd_Ref_seek_223 : decode prog_13_method_18_code 223 = .ok (.aload_n 0, 1) := by decide +kernel
theorem zd_Ref_seek_224 : decode prog_13_method_18_code 224 = .ok (.iload 9, 2) := by decide +kernel
theorem zd_Ref_seek_226 : decode prog_13_method_18_code 226 = .ok (.putfield 136, 3) := by decide +kernel
theorem zd_Ref_seek_229 : decode prog_13_method_18_code 229 = .ok (.iinc 6 1, 3) := by decide +kernel
theorem zd_Ref_seek_232 : decode prog_13_method_18_code 232 = .ok (.goto (-197), 3) := by decide +kernel
theorem zd_Ref_seek_235 : decode prog_13_method_18_code 235 = .ok (.iinc 4 1, 3) := by decide +kernel
theorem zd_Ref_seek_238 : decode prog_13_method_18_code 238 = .ok (.goto (-226), 3) := by decide +kernel
theorem zd_Ref_seek_241 : decode prog_13_method_18_code 241 = .ok (.aload_n 0, 1) := by decide +kernel
theorem zd_Ref_seek_242 : decode prog_13_method_18_code 242 = .ok (.getfield 115, 3) := by decide +kernel
theorem zd_Ref_seek_245 : decode prog_13_method_18_code 245 = .ok (.ifCond .lt 7, 3) := by decide +kernel
theorem zd_Ref_seek_248 : decode prog_13_method_18_code 248 = .ok (.iconst 1, 1) := by decide +kernel
theorem zd_Ref_seek_249 : decode prog_13_method_18_code 249 = .ok (.goto 4, 3) := by decide +kernel
theorem zd_Ref_seek_252 : decode prog_13_method_18_code 252 = .ok (.iconst 0, 1) := by decide +kernel
theorem zd_Ref_seek_253 : decode prog_13_method_18_code 253 = .ok (.ireturn, 1) := by decide +kernel
def zm_Ref_present : zg_M := (⟨"SurrogateTreeModel", "present", "(II)I"⟩, prog_13_method_10_code, 5, (some .int))
theorem zd_Ref_present_0 : decode prog_13_method_10_code 0 = .ok (.iconst 0, 1) := by decide +kernel
theorem zd_Ref_present_1 : decode prog_13_method_10_code 1 = .ok (.istore_n 3, 1) := by decide +kernel
theorem zd_Ref_present_2 : decode prog_13_method_10_code 2 = .ok (.iconst 0, 1) := by decide +kernel
theorem zd_Ref_present_3 : decode prog_13_method_10_code 3 = .ok (.istore 4, 2) := by decide +kernel
theorem zd_Ref_present_5 : decode prog_13_method_10_code 5 = .ok (.iload 4, 2) := by decide +kernel
theorem zd_Ref_present_7 : decode prog_13_method_10_code 7 = .ok (.aload_n 0, 1) := by decide +kernel
theorem zd_Ref_present_8 : decode prog_13_method_10_code 8 = .ok (.getfield 76, 3) := by decide +kernel
theorem zd_Ref_present_11 : decode prog_13_method_10_code 11 = .ok (.if_icmp .ge 45, 3) := by decide +kernel
theorem zd_Ref_present_14 : decode prog_13_method_10_code 14 = .ok (.iload_n 1, 1) := by decide +kernel
theorem zd_Ref_present_15 : decode prog_13_method_10_code 15 = .ok (.iload 4, 2) := by decide +kernel
theorem zd_Ref_present_17 : decode prog_13_method_10_code 17 = .ok (.invokestatic 93, 3) := by decide +kernel
theorem zd_Ref_present_20 : decode prog_13_method_10_code 20 = .ok (.ifCond .eq 28, 3) := by decide +kernel
theorem zd_Ref_present_23 : decode prog_13_method_10_code 23 = .ok (.aload_n 0, 1) := by decide +kernel
theorem zd_Ref_present_24 : decode prog_13_method_10_code 24 = .ok (.getfield 7, 3) := by decide +kernel
theorem zd_Ref_present_27 : decode prog_13_method_10_code 27 = .ok (.iconst 3, 1) := by decide +kernel
theorem zd_Ref_present_28 : decode prog_13_method_10_code 28 = .ok (.iload 4, 2) := by decide +kernel
theorem zd_Ref_present_30 : decode prog_13_method_10_code 30 = .ok (.imul, 1) := by decide +kernel
theorem zd_Ref_present_31 : decode prog_13_method_10_code 31 = .ok (.iload_n 2, 1) := by decide +kernel
theorem zd_Ref_present_32 : decode prog_13_method_10_code 32 = .ok (.iadd, 1) := by decide +kernel
theorem zd_Ref_present_33 : decode prog_13_method_10_code 33 = .ok (.iaload, 1) := by decide +kernel
theorem zd_Ref_present_34 : decode prog_13_method_10_code 34 = .ok (.ldc 97, 2) := by decide +kernel
theorem zd_Ref_present_36 : decode prog_13_method_10_code 36 = .ok (.if_icmp .eq 12, 3) := by decide +kernel
theorem zd_Ref_present_39 : decode prog_13_method_10_code 39 = .ok (.iload_n 3, 1) := by decide +kernel
theorem zd_Ref_present_40 : decode prog_13_method_10_code 40 = .ok (.iconst 1, 1) := by decide +kernel
theorem zd_Ref_present_41 : decode prog_13_method_10_code 41 = .ok (.iload 4, 2) := by decide +kernel
theorem zd_Ref_present_43 : decode prog_13_method_10_code 43 = .ok (.ishl, 1) := by decide +kernel
theorem zd_Ref_present_44 : decode prog_13_method_10_code 44 = .ok (.ior, 1) := by decide +kernel
theorem zd_Ref_present_45 : decode prog_13_method_10_code 45 = .ok (.goto 4, 3) := by decide +kernel
theorem zd_Ref_present_48 : decode prog_13_method_10_code 48 = .ok (.iload_n 3, 1) := by decide +kernel
theorem zd_Ref_present_49 : decode prog_13_method_10_code 49 = .ok (.istore_n 3, 1) := by decide +kernel
theorem zd_Ref_present_50 : decode prog_13_method_10_code 50 = .ok (.iinc 4 1, 3) := by decide +kernel
theorem zd_Ref_present_53 : decode prog_13_method_10_code 53 = .ok (.goto (-48), 3) := by decide +kernel
theorem zd_Ref_present_56 : decode prog_13_method_10_code 56 = .ok (.iload_n 3, 1) := by decide +kernel
theorem zd_Ref_present_57 : decode prog_13_method_10_code 57 = .ok (.ireturn, 1) := by decide +kernel
def zm_Ref_has : zg_M := (⟨"SurrogateTreeModel", "has", "(II)Z"⟩, prog_13_method_8_code, 2, (some .boolean))
theorem zd_Ref_has_0 : decode prog_13_method_8_code 0 = .ok (.iload_n 0, 1) := by decide +kernel
theorem zd_Ref_has_1 : decode prog_13_method_8_code 1 = .ok (.iload_n 1, 1) := by decide +kernel
theorem zd_Ref_has_2 : decode prog_13_method_8_code 2 = .ok (.ishr, 1) := by decide +kernel
theorem zd_Ref_has_3 : decode prog_13_method_8_code 3 = .ok (.iconst 1, 1) := by decide +kernel
theorem zd_Ref_has_4 : decode prog_13_method_8_code 4 = .ok (.iand, 1) := by decide +kernel
theorem zd_Ref_has_5 : decode prog_13_method_8_code 5 = .ok (.ifCond .eq 7, 3) := by decide +kernel
theorem zd_Ref_has_8 : decode prog_13_method_8_code 8 = .ok (.iconst 1, 1) := by decide +kernel
theorem zd_Ref_has_9 : decode prog_13_method_8_code 9 = .ok (.goto 4, 3) := by decide +kernel
theorem zd_Ref_has_12 : decode prog_13_method_8_code 12 = .ok (.iconst 0, 1) := by decide +kernel
theorem zd_Ref_has_13 : decode prog_13_method_8_code 13 = .ok (.ireturn, 1) := by decide +kernel
def zm_Ref_next : zg_M := (⟨"SurrogateTreeModel", "next", "(IIII)Z"⟩, prog_13_method_12_code, 8, (some .boolean))
theorem zd_Ref_next_0 : decode prog_13_method_12_code 0 = .ok (.iload_n 1, 1) := by decide +kernel
theorem zd_Ref_next_1 : decode prog_13_method_12_code 1 = .ok (.iload_n 3, 1) := by decide +kernel
theorem zd_Ref_next_2 : decode prog_13_method_12_code 2 = .ok (.invokestatic 93, 3) := by decide +kernel
theorem zd_Ref_next_5 : decode prog_13_method_12_code 5 = .ok (.ifCond .eq 36, 3) := by decide +kernel
theorem zd_Ref_next_8 : decode prog_13_method_12_code 8 = .ok (.iload_n 1, 1) := by decide +kernel
theorem zd_Ref_next_9 : decode prog_13_method_12_code 9 = .ok (.iload 4, 2) := by decide +kernel
theorem zd_Ref_next_11 : decode prog_13_method_12_code 11 = .ok (.invokestatic 93, 3) := by decide +kernel
theorem zd_Ref_next_14 : decode prog_13_method_12_code 14 = .ok (.ifCond .eq 27, 3) := by decide +kernel
theorem zd_Ref_next_17 : decode prog_13_method_12_code 17 = .ok (.aload_n 0, 1) := by decide +kernel
theorem zd_Ref_next_18 : decode prog_13_method_12_code 18 = .ok (.getfield 7, 3) := by decide +kernel
theorem zd_Ref_next_21 : decode prog_13_method_12_code 21 = .ok (.iconst 3, 1) := by decide +kernel
theorem zd_Ref_next_22 : decode prog_13_method_12_code 22 = .ok (.iload_n 3, 1) := by decide +kernel
theorem zd_Ref_next_23 : decode prog_13_method_12_code 23 = .ok (.imul, 1) := by decide +kernel
theorem zd_Ref_next_24 : decode prog_13_method_12_code 24 = .ok (.iload_n 2, 1) := by decide +kernel
theorem zd_Ref_next_25 : decode prog_13_method_12_code 25 = .ok (.iadd, 1) := by decide +kernel
theorem zd_Ref_next_26 : decode prog_13_method_12_code 26 = .ok (.iaload, 1) := by decide +kernel
theorem zd_Ref_next_27 : decode prog_13_method_12_code 27 = .ok (.aload_n 0, 1) := by decide +kernel
theorem zd_Ref_next_28 : decode prog_13_method_12_code 28 = .ok (.getfield 7, 3) := by decide +kernel
theorem zd_Ref_next_31 : decode prog_13_method_12_code 31 = .ok (.iconst 3, 1) := by decide +kernel
theorem zd_Ref_next_32 : decode prog_13_method_12_code 32 = .ok (.iload 4, 2) := by decide +kernel
theorem zd_Ref_next_34 : decode prog_13_method_12_code 34 = .ok (.imul, 1) := by decide +kernel
theorem zd_Ref_next_35 : decode prog_13_method_12_code 35 = .ok (.iload_n 2, 1) := by decide +kernel
theorem zd_Ref_next_36 : decode prog_13_method_12_code 36 = .ok (.iadd, 1) := by decide +kernel
theorem zd_Ref_next_37 : decode prog_13_method_12_code 37 = .ok (.iaload, 1) := by decide +kernel
theorem zd_Ref_next_38 : decode prog_13_method_12_code 38 = .ok (.if_icmp .lt 5, 3) := by decide +kernel
theorem zd_Ref_next_41 : decode prog_13_method_12_code 41 = .ok (.iconst 0, 1) := by decide +kernel
theorem zd_Ref_next_42 : decode prog_13_method_12_code 42 = .ok (.ireturn, 1) := by decide +kernel
theorem zd_Ref_next_43 : decode prog_13_method_12_code 43 = .ok (.iconst 1, 1) := by decide +kernel
theorem zd_Ref_next_44 : decode prog_13_method_12_code 44 = .ok (.istore 5, 2) := by decide +kernel
theorem zd_Ref_next_46 : decode prog_13_method_12_code 46 = .ok (.iconst 0, 1) := by decide +kernel
theorem zd_Ref_next_47 : decode prog_13_method_12_code 47 = .ok (.istore 6, 2) := by decide +kernel
theorem zd_Ref_next_49 : decode prog_13_method_12_code 49 = .ok (.iload 6, 2) := by decide +kernel
theorem zd_Ref_next_51 : decode prog_13_method_12_code 51 = .ok (.aload_n 0, 1) := by decide +kernel
theorem zd_Ref_next_52 : decode prog_13_method_12_code 52 = .ok (.getfield 76, 3) := by decide +kernel
theorem zd_Ref_next_55 : decode prog_13_method_12_code 55 = .ok (.if_icmp .ge 74, 3) := by decide +kernel
theorem zd_Ref_next_58 : decode prog_13_method_12_code 58 = .ok (.aload_n 0, 1) := by decide +kernel
theorem zd_Ref_next_59 : decode prog_13_method_12_code 59 = .ok (.getfield 7, 3) := by decide +kernel
theorem zd_Ref_next_62 : decode prog_13_method_12_code 62 = .ok (.iconst 3, 1) := by decide +kernel
theorem zd_Ref_next_63 : decode prog_13_method_12_code 63 = .ok (.iload 6, 2) := by decide +kernel
theorem zd_Ref_next_65 : decode prog_13_method_12_code 65 = .ok (.imul, 1) := by decide +kernel
theorem zd_Ref_next_66 : decode prog_13_method_12_code 66 = .ok (.iload_n 2, 1) := by decide +kernel
theorem zd_Ref_next_67 : decode prog_13_method_12_code 67 = .ok (.iadd, 1) := by decide +kernel
theorem zd_Ref_next_68 : decode prog_13_method_12_code 68 = .ok (.iaload, 1) := by decide +kernel
theorem zd_Ref_next_69 : decode prog_13_method_12_code 69 = .ok (.istore 7, 2) := by decide +kernel
theorem zd_Ref_next_71 : decode prog_13_method_12_code 71 = .ok (.iload 5, 2) := by decide +kernel
theorem zd_Ref_next_73 : decode prog_13_method_12_code 73 = .ok (.ifCond .eq 47, 3) := by decide +kernel
theorem zd_Ref_next_76 : decode prog_13_method_12_code 76 = .ok (.iload_n 1, 1) := by decide +kernel
theorem zd_Ref_next_77 : decode prog_13_method_12_code 77 = .ok (.iload 6, 2) := by decide +kernel
theorem zd_Ref_next_79 : decode prog_13_method_12_code 79 = .ok (.invokestatic 93, 3) := by decide +kernel
theorem zd_Ref_next_82 : decode prog_13_method_12_code 82 = .ok (.ifCond .eq 34, 3) := by decide +kernel
theorem zd_Ref_next_85 : decode prog_13_method_12_code 85 = .ok (.iload 7, 2) := by decide +kernel
theorem zd_Ref_next_87 : decode prog_13_method_12_code 87 = .ok (.aload_n 0, 1) := by decide +kernel
theorem zd_Ref_next_88 : decode prog_13_method_12_code 88 = .ok (.getfield 7, 3) := by decide +kernel
theorem zd_Ref_next_91 : decode prog_13_method_12_code 91 = .ok (.iconst 3, 1) := by decide +kernel
theorem zd_Ref_next_92 : decode prog_13_method_12_code 92 = .ok (.iload_n 3, 1) := by decide +kernel
theorem zd_Ref_next_93 : decode prog_13_method_12_code 93 = .ok (.imul, 1) := by decide +kernel
theorem zd_Ref_next_94 : decode prog_13_method_12_code 94 = .ok (.iload_n 2, 1) := by decide +kernel
theorem zd_Ref_next_95 : decode prog_13_method_12_code 95 = .ok (.iadd, 1) := by decide +kernel
theorem zd_Ref_next_96 : decode prog_13_method_12_code 96 = .ok (.iaload, 1) := by decide +kernel
theorem zd_Ref_next_97 : decode prog_13_method_12_code 97 = .ok (.if_icmp .le 19, 3) := by decide +kernel
theorem zd_Ref_next_100 : decode prog_13_method_12_code 100 = .ok (.iload 7, 2) := by decide +kernel
theorem zd_Ref_next_102 : decode prog_13_method_12_code 102 = .ok (.aload_n 0, 1) := by decide +kernel
theorem zd_Ref_next_103 : decode prog_13_method_12_code 103 = .ok (.getfield 7, 3) := by decide +kernel
theorem zd_Ref_next_106 : decode prog_13_method_12_code 106 = .ok (.iconst 3, 1) := by decide +kernel
theorem zd_Ref_next_107 : decode prog_13_method_12_code 107 = .ok (.iload 4, 2) := by decide +kernel
theorem zd_Ref_next_109 : decode prog_13_method_12_code 109 = .ok (.imul, 1) := by decide +kernel
theorem zd_Ref_next_110 : decode prog_13_method_12_code 110 = .ok (.iload_n 2, 1) := by decide +kernel
theorem zd_Ref_next_111 : decode prog_13_method_12_code 111 = .ok (.iadd, 1) := by decide +kernel
theorem zd_Ref_next_112 : decode prog_13_method_12_code 112 = .ok (.iaload, 1) := by decide +kernel
theorem zd_Ref_next_113 : decode prog_13_method_12_code 113 = .ok (.if_icmp .lt 7, 3) := by decide +kernel
theorem zd_Ref_next_116 : decode prog_13_method_12_code 116 = .ok (.iconst 1, 1) := by decide +kernel
theorem zd_Ref_next_117 : decode prog_13_method_12_code 117 = .ok (.goto 4, 3) := by decide +kernel
theorem zd_Ref_next_120 : decode prog_13_method_12_code 120 = .ok (.iconst 0, 1) := by decide +kernel
theorem zd_Ref_next_121 : decode prog_13_method_12_code 121 = .ok (.istore 5, 2) := by decide +kernel
theorem zd_Ref_next_123 : decode prog_13_method_12_code 123 = .ok (.iinc 6 1, 3) := by decide +kernel
theorem zd_Ref_next_126 : decode prog_13_method_12_code 126 = .ok (.goto (-77), 3) := by decide +kernel
theorem zd_Ref_next_129 : decode prog_13_method_12_code 129 = .ok (.iload 5, 2) := by decide +kernel
theorem zd_Ref_next_131 : decode prog_13_method_12_code 131 = .ok (.ireturn, 1) := by decide +kernel
def zm_Ref_between : zg_M := (⟨"SurrogateTreeModel", "between", "(III)I"⟩, prog_13_method_13_code, 4, (some .int))
theorem zd_Ref_between_0 : decode prog_13_method_13_code 0 = .ok (.aload_n 0, 1) := by decide +kernel
theorem zd_Ref_between_1 : decode prog_13_method_13_code 1 = .ok (.getfield 7, 3) := by decide +kernel
theorem zd_Ref_between_4 : decode prog_13_method_13_code 4 = .ok (.iconst 3, 1) := by decide +kernel
theorem zd_Ref_between_5 : decode prog_13_method_13_code 5 = .ok (.iload_n 2, 1) := by decide +kernel
theorem zd_Ref_between_6 : decode prog_13_method_13_code 6 = .ok (.imul, 1) := by decide +kernel
theorem zd_Ref_between_7 : decode prog_13_method_13_code 7 = .ok (.iload_n 1, 1) := by decide +kernel
theorem zd_Ref_between_8 : decode prog_13_method_13_code 8 = .ok (.iadd, 1) := by decide +kernel
theorem zd_Ref_between_9 : decode prog_13_method_13_code 9 = .ok (.iaload, 1) := by decide +kernel
theorem zd_Ref_between_10 : decode prog_13_method_13_code 10 = .ok (.i2l, 1) := by decide +kernel
theorem zd_Ref_between_11 : decode prog_13_method_13_code 11 = .ok (.aload_n 0, 1) := by decide +kernel
theorem zd_Ref_between_12 : decode prog_13_method_13_code 12 = .ok (.getfield 7, 3) := by decide +kernel
theorem zd_Ref_between_15 : decode prog_13_method_13_code 15 = .ok (.iconst 3, 1) := by decide +kernel
theorem zd_Ref_between_16 : decode prog_13_method_13_code 16 = .ok (.iload_n 3, 1) := by decide +kernel
theorem zd_Ref_between_17 : decode prog_13_method_13_code 17 = .ok (.imul, 1) := by decide +kernel
theorem zd_Ref_between_18 : decode prog_13_method_13_code 18 = .ok (.iload_n 1, 1) := by decide +kernel
theorem zd_Ref_between_19 : decode prog_13_method_13_code 19 = .ok (.iadd, 1) := by decide +kernel
theorem zd_Ref_between_20 : decode prog_13_method_13_code 20 = .ok (.iaload, 1) := by decide +kernel
theorem zd_Ref_between_21 : decode prog_13_method_13_code 21 = .ok (.i2l, 1) := by decide +kernel
theorem zd_Ref_between_22 : decode prog_13_method_13_code 22 = .ok (.ladd, 1) := by decide +kernel
theorem zd_Ref_between_23 : decode prog_13_method_13_code 23 = .ok (.iconst 1, 1) := by decide +kernel
theorem zd_Ref_between_24 : decode prog_13_method_13_code 24 = .ok (.lshr, 1) := by decide +kernel
theorem zd_Ref_between_25 : decode prog_13_method_13_code 25 = .ok (.l2i, 1) := by decide +kernel
theorem zd_Ref_between_26 : decode prog_13_method_13_code 26 = .ok (.ireturn, 1) := by decide +kernel
def zm_Ref_upTo : zg_M := (⟨"SurrogateTreeModel", "upTo", "(III)I"⟩, prog_13_method_11_code, 6, (some .int))
theorem zd_Ref_upTo_0 : decode prog_13_method_11_code 0 = .ok (.iconst 0, 1) := by decide +kernel
theorem zd_Ref_upTo_1 : decode prog_13_method_11_code 1 = .ok (.istore 4, 2) := by decide +kernel
theorem zd_Ref_upTo_3 : decode prog_13_method_11_code 3 = .ok (.iconst 0, 1) := by decide +kernel
theorem zd_Ref_upTo_4 : decode prog_13_method_11_code 4 = .ok (.istore 5, 2) := by decide +kernel
theorem zd_Ref_upTo_6 : decode prog_13_method_11_code 6 = .ok (.iload 5, 2) := by decide +kernel
theorem zd_Ref_upTo_8 : decode prog_13_method_11_code 8 = .ok (.aload_n 0, 1) := by decide +kernel
theorem zd_Ref_upTo_9 : decode prog_13_method_11_code 9 = .ok (.getfield 76, 3) := by decide +kernel
theorem zd_Ref_upTo_12 : decode prog_13_method_11_code 12 = .ok (.if_icmp .ge 47, 3) := by decide +kernel
theorem zd_Ref_upTo_15 : decode prog_13_method_11_code 15 = .ok (.iload_n 1, 1) := by decide +kernel
theorem zd_Ref_upTo_16 : decode prog_13_method_11_code 16 = .ok (.iload 5, 2) := by decide +kernel
theorem zd_Ref_upTo_18 : decode prog_13_method_11_code 18 = .ok (.invokestatic 93, 3) := by decide +kernel
theorem zd_Ref_upTo_21 : decode prog_13_method_11_code 21 = .ok (.ifCond .eq 28, 3) := by decide +kernel
theorem zd_Ref_upTo_24 : decode prog_13_method_11_code 24 = .ok (.aload_n 0, 1) := by decide +kernel
theorem zd_Ref_upTo_25 : decode prog_13_method_11_code 25 = .ok (.getfield 7, 3) := by decide +kernel
theorem zd_Ref_upTo_28 : decode prog_13_method_11_code 28 = .ok (.iconst 3, 1) := by decide +kernel
theorem zd_Ref_upTo_29 : decode prog_13_method_11_code 29 = .ok (.iload 5, 2) := by decide +kernel
theorem zd_Ref_upTo_31 : decode prog_13_method_11_code 31 = .ok (.imul, 1) := by decide +kernel
theorem zd_Ref_upTo_32 : decode prog_13_method_11_code 32 = .ok (.iload_n 2, 1) := by decide +kernel
theorem zd_Ref_upTo_33 : decode prog_13_method_11_code 33 = .ok (.iadd, 1) := by decide +kernel
theorem zd_Ref_upTo_34 : decode prog_13_method_11_code 34 = .ok (.iaload, 1) := by decide +kernel
theorem zd_Ref_upTo_35 : decode prog_13_method_11_code 35 = .ok (.iload_n 3, 1) := by decide +kernel
theorem zd_Ref_upTo_36 : decode prog_13_method_11_code 36 = .ok (.if_icmp .gt 13, 3) := by decide +kernel
theorem zd_Ref_upTo_39 : decode prog_13_method_11_code 39 = .ok (.iload 4, 2) := by decide +kernel
theorem zd_Ref_upTo_41 : decode prog_13_method_11_code 41 = .ok (.iconst 1, 1) := by decide +kernel
theorem zd_Ref_upTo_42 : decode prog_13_method_11_code 42 = .ok (.iload 5, 2) := by decide +kernel
theorem zd_Ref_upTo_44 : decode prog_13_method_11_code 44 = .ok (.ishl, 1) := by decide +kernel
theorem zd_Ref_upTo_45 : decode prog_13_method_11_code 45 = .ok (.ior, 1) := by decide +kernel
theorem zd_Ref_upTo_46 : decode prog_13_method_11_code 46 = .ok (.goto 5, 3) := by decide +kernel
theorem zd_Ref_upTo_49 : decode prog_13_method_11_code 49 = .ok (.iload 4, 2) := by decide +kernel
theorem zd_Ref_upTo_51 : decode prog_13_method_11_code 51 = .ok (.istore 4, 2) := by decide +kernel
theorem zd_Ref_upTo_53 : decode prog_13_method_11_code 53 = .ok (.iinc 5 1, 3) := by decide +kernel
theorem zd_Ref_upTo_56 : decode prog_13_method_11_code 56 = .ok (.goto (-50), 3) := by decide +kernel
theorem zd_Ref_upTo_59 : decode prog_13_method_11_code 59 = .ok (.iload 4, 2) := by decide +kernel
theorem zd_Ref_upTo_61 : decode prog_13_method_11_code 61 = .ok (.ireturn, 1) := by decide +kernel
def zm_Ref_weigh : zg_M := (⟨"SurrogateTreeModel", "weigh", "(II)I"⟩, prog_13_method_9_code, 5, (some .int))
theorem zd_Ref_weigh_0 : decode prog_13_method_9_code 0 = .ok (.iconst 0, 1) := by decide +kernel
theorem zd_Ref_weigh_1 : decode prog_13_method_9_code 1 = .ok (.istore_n 3, 1) := by decide +kernel
theorem zd_Ref_weigh_2 : decode prog_13_method_9_code 2 = .ok (.iconst 0, 1) := by decide +kernel
theorem zd_Ref_weigh_3 : decode prog_13_method_9_code 3 = .ok (.istore 4, 2) := by decide +kernel
theorem zd_Ref_weigh_5 : decode prog_13_method_9_code 5 = .ok (.iload 4, 2) := by decide +kernel
theorem zd_Ref_weigh_7 : decode prog_13_method_9_code 7 = .ok (.aload_n 0, 1) := by decide +kernel
theorem zd_Ref_weigh_8 : decode prog_13_method_9_code 8 = .ok (.getfield 76, 3) := by decide +kernel
theorem zd_Ref_weigh_11 : decode prog_13_method_9_code 11 = .ok (.if_icmp .ge 47, 3) := by decide +kernel
theorem zd_Ref_weigh_14 : decode prog_13_method_9_code 14 = .ok (.iload_n 1, 1) := by decide +kernel
theorem zd_Ref_weigh_15 : decode prog_13_method_9_code 15 = .ok (.iload 4, 2) := by decide +kernel
theorem zd_Ref_weigh_17 : decode prog_13_method_9_code 17 = .ok (.invokestatic 93, 3) := by decide +kernel
theorem zd_Ref_weigh_20 : decode prog_13_method_9_code 20 = .ok (.ifCond .eq 30, 3) := by decide +kernel
theorem zd_Ref_weigh_23 : decode prog_13_method_9_code 23 = .ok (.iload_n 2, 1) := by decide +kernel
theorem zd_Ref_weigh_24 : decode prog_13_method_9_code 24 = .ok (.ifCond .lt 14, 3) := by decide +kernel
theorem zd_Ref_weigh_27 : decode prog_13_method_9_code 27 = .ok (.aload_n 0, 1) := by decide +kernel
theorem zd_Ref_weigh_28 : decode prog_13_method_9_code 28 = .ok (.getfield 13, 3) := by decide +kernel
theorem zd_Ref_weigh_31 : decode prog_13_method_9_code 31 = .ok (.iload 4, 2) := by decide +kernel
theorem zd_Ref_weigh_33 : decode prog_13_method_9_code 33 = .ok (.iaload, 1) := by decide +kernel
theorem zd_Ref_weigh_34 : decode prog_13_method_9_code 34 = .ok (.iload_n 2, 1) := by decide +kernel
theorem zd_Ref_weigh_35 : decode prog_13_method_9_code 35 = .ok (.if_icmp .ne 15, 3) := by decide +kernel
theorem zd_Ref_weigh_38 : decode prog_13_method_9_code 38 = .ok (.iload_n 3, 1) := by decide +kernel
theorem zd_Ref_weigh_39 : decode prog_13_method_9_code 39 = .ok (.aload_n 0, 1) := by decide +kernel
theorem zd_Ref_weigh_40 : decode prog_13_method_9_code 40 = .ok (.getfield 16, 3) := by decide +kernel
theorem zd_Ref_weigh_43 : decode prog_13_method_9_code 43 = .ok (.iload 4, 2) := by decide +kernel
theorem zd_Ref_weigh_45 : decode prog_13_method_9_code 45 = .ok (.iaload, 1) := by decide +kernel
theorem zd_Ref_weigh_46 : decode prog_13_method_9_code 46 = .ok (.iadd, 1) := by decide +kernel
theorem zd_Ref_weigh_47 : decode prog_13_method_9_code 47 = .ok (.goto 4, 3) := by decide +kernel
theorem zd_Ref_weigh_50 : decode prog_13_method_9_code 50 = .ok (.iload_n 3, 1) := by decide +kernel
theorem zd_Ref_weigh_51 : decode prog_13_method_9_code 51 = .ok (.istore_n 3, 1) := by decide +kernel
theorem zd_Ref_weigh_52 : decode prog_13_method_9_code 52 = .ok (.iinc 4 1, 3) := by decide +kernel
theorem zd_Ref_weigh_55 : decode prog_13_method_9_code 55 = .ok (.goto (-50), 3) := by decide +kernel
theorem zd_Ref_weigh_58 : decode prog_13_method_9_code 58 = .ok (.iload_n 3, 1) := by decide +kernel
theorem zd_Ref_weigh_59 : decode prog_13_method_9_code 59 = .ok (.ireturn, 1) := by decide +kernel
def zm_Ref_gainOf : zg_M := (⟨"SurrogateTreeModel", "gainOf", "(II)V"⟩, prog_13_method_17_code, 10, none)
theorem zd_Ref_gainOf_0 : decode prog_13_method_17_code 0 = .ok (.aload_n 0, 1) := by decide +kernel
theorem zd_Ref_gainOf_1 : decode prog_13_method_17_code 1 = .ok (.iload_n 1, 1) := by decide +kernel
theorem zd_Ref_gainOf_2 : decode prog_13_method_17_code 2 = .ok (.iconst (-1), 1) := by decide +kernel
theorem zd_Ref_gainOf_3 : decode prog_13_method_17_code 3 = .ok (.invokevirtual 98, 3) := by decide +kernel
theorem zd_Ref_gainOf_6 : decode prog_13_method_17_code 6 = .ok (.istore_n 3, 1) := by decide +kernel
theorem zd_Ref_gainOf_7 : decode prog_13_method_17_code 7 = .ok (.aload_n 0, 1) := by decide +kernel
theorem zd_Ref_gainOf_8 : decode prog_13_method_17_code 8 = .ok (.iload_n 2, 1) := by decide +kernel
theorem zd_Ref_gainOf_9 : decode prog_13_method_17_code 9 = .ok (.iconst (-1), 1) := by decide +kernel
theorem zd_Ref_gainOf_10 : decode prog_13_method_17_code 10 = .ok (.invokevirtual 98, 3) := by decide +kernel
theorem zd_Ref_gainOf_13 : decode prog_13_method_17_code 13 = .ok (.istore 4, 2) := by decide +kernel
theorem zd_Ref_gainOf_15 : decode prog_13_method_17_code 15 = .ok (.aload_n 0, 1) := by decide +kernel
theorem zd_Ref_gainOf_16 : decode prog_13_method_17_code 16 = .ok (.getfield 86, 3) := by decide +kernel
theorem zd_Ref_gainOf_19 : decode prog_13_method_17_code 19 = .ok (.iconst 1, 1) := by decide +kernel
theorem zd_Ref_gainOf_20 : decode prog_13_method_17_code 20 = .ok (.if_icmp .ne 32, 3) := by decide +kernel
theorem zd_Ref_gainOf_23 : decode prog_13_method_17_code 23 = .ok (.aload_n 0, 1) := by decide +kernel
theorem zd_Ref_gainOf_24 : decode prog_13_method_17_code 24 = .ok (.aload_n 0, 1) := by decide +kernel
theorem zd_Ref_gainOf_25 : decode prog_13_method_17_code 25 = .ok (.iload_n 1, 1) := by decide +kernel
theorem zd_Ref_gainOf_26 : decode prog_13_method_17_code 26 = .ok (.invokevirtual 106, 3) := by decide +kernel
theorem zd_Ref_gainOf_29 : decode prog_13_method_17_code 29 = .ok (.aload_n 0, 1) := by decide +kernel
theorem zd_Ref_gainOf_30 : decode prog_13_method_17_code 30 = .ok (.iload_n 2, 1) := by decide +kernel
theorem zd_Ref_gainOf_31 : decode prog_13_method_17_code 31 = .ok (.invokevirtual 106, 3) := by decide +kernel
theorem zd_Ref_gainOf_34 : decode prog_13_method_17_code 34 = .ok (.iadd, 1) := by decide +kernel
theorem zd_Ref_gainOf_35 : decode prog_13_method_17_code 35 = .ok (.aload_n 0, 1) := by decide +kernel
theorem zd_Ref_gainOf_36 : decode prog_13_method_17_code 36 = .ok (.iload_n 1, 1) := by decide +kernel
theorem zd_Ref_gainOf_37 : decode prog_13_method_17_code 37 = .ok (.iload_n 2, 1) := by decide +kernel
theorem zd_Ref_gainOf_38 : decode prog_13_method_17_code 38 = .ok (.ior, 1) := by decide +kernel
theorem zd_Ref_gainOf_39 : decode prog_13_method_17_code 39 = .ok (.invokevirtual 106, 3) := by decide +kernel
theorem zd_Ref_gainOf_42 : decode prog_13_method_17_code 42 = .ok (.isub, 1) := by decide +kernel
theorem zd_Ref_gainOf_43 : decode prog_13_method_17_code 43 = .ok (.putfield 109, 3) := by decide +kernel
theorem zd_Ref_gainOf_46 : decode prog_13_method_17_code 46 = .ok (.aload_n 0, 1) := by decide +kernel
theorem zd_Ref_gainOf_47 : decode prog_13_method_17_code 47 = .ok (.iconst 1, 1) := by decide +kernel
theorem zd_Ref_gainOf_48 : decode prog_13_method_17_code 48 = .ok (.putfield 112, 3) := by decide +kernel
theorem zd_Ref_gainOf_51 : decode prog_13_method_17_code 51 = .ok (.return_, 1) := by decide +kernel
theorem zd_Ref_gainOf_52 : decode prog_13_method_17_code 52 = .ok (.aload_n 0, 1) := by decide +kernel
theorem zd_Ref_gainOf_53 : decode prog_13_method_17_code 53 = .ok (.iconst 0, 1) := by decide +kernel
theorem zd_Ref_gainOf_54 : decode prog_13_method_17_code 54 = .ok (.putfield 109, 3) := by decide +kernel
theorem zd_Ref_gainOf_57 : decode prog_13_method_17_code 57 = .ok (.aload_n 0, 1) := by decide +kernel
theorem zd_Ref_gainOf_58 : decode prog_13_method_17_code 58 = .ok (.iload_n 3, 1) := by decide +kernel
theorem zd_Ref_gainOf_59 : decode prog_13_method_17_code 59 = .ok (.iload 4, 2) := by decide +kernel
theorem zd_Ref_gainOf_61 : decode prog_13_method_17_code 61 = .ok (.iadd, 1) := by decide +kernel
theorem zd_Ref_gainOf_62 : decode prog_13_method_17_code 62 = .ok (.iload_n 3, 1) := by decide +kernel
theorem zd_Ref_gainOf_63 : decode prog_13_method_17_code 63 = .ok (.imul, 1) := by decide +kernel
theorem zd_Ref_gainOf_64 : decode prog_13_method_17_code 64 = .ok (.iload 4, 2) := by decide +kernel
theorem zd_Ref_gainOf_66 : decode prog_13_method_17_code 66 = .ok (.imul, 1) := by decide +kernel
theorem zd_Ref_gainOf_67 : decode prog_13_method_17_code 67 = .ok (.putfield 112, 3) := by decide +kernel
theorem zd_Ref_gainOf_70 : decode prog_13_method_17_code 70 = .ok (.iconst 0, 1) := by decide +kernel
theorem zd_Ref_gainOf_71 : decode prog_13_method_17_code 71 = .ok (.istore 5, 2) := by decide +kernel
theorem zd_Ref_gainOf_73 : decode prog_13_method_17_code 73 = .ok (.iconst 0, 1) := by decide +kernel
theorem zd_Ref_gainOf_74 : decode prog_13_method_17_code 74 = .ok (.istore 6, 2) := by decide +kernel
theorem zd_Ref_gainOf_76 : decode prog_13_method_17_code 76 = .ok (.iload 6, 2) := by decide +kernel
theorem zd_Ref_gainOf_78 : decode prog_13_method_17_code 78 = .ok (.iconst 4, 1) := by decide +kernel
theorem zd_Ref_gainOf_79 : decode prog_13_method_17_code 79 = .ok (.if_icmp .ge 119, 3) := by decide +kernel
theorem zd_Ref_gainOf_82 : decode prog_13_method_17_code 82 = .ok (.aload_n 0, 1) := by decide +kernel
theorem zd_Ref_gainOf_83 : decode prog_13_method_17_code 83 = .ok (.iload_n 1, 1) := by decide +kernel
theorem zd_Ref_gainOf_84 : decode prog_13_method_17_code 84 = .ok (.iload 6, 2) := by decide +kernel
theorem zd_Ref_gainOf_86 : decode prog_13_method_17_code 86 = .ok (.invokevirtual 98, 3) := by decide +kernel
theorem zd_Ref_gainOf_89 : decode prog_13_method_17_code 89 = .ok (.istore 7, 2) := by decide +kernel
theorem zd_Ref_gainOf_91 : decode prog_13_method_17_code 91 = .ok (.aload_n 0, 1) := by decide +kernel
theorem zd_Ref_gainOf_92 : decode prog_13_method_17_code 92 = .ok (.iload_n 2, 1) := by decide +kernel
theorem zd_Ref_gainOf_93 : decode prog_13_method_17_code 93 = .ok (.iload 6, 2) := by decide +kernel
theorem zd_Ref_gainOf_95 : decode prog_13_method_17_code 95 = .ok (.invokevirtual 98, 3) := by decide +kernel
theorem zd_Ref_gainOf_98 : decode prog_13_method_17_code 98 = .ok (.istore 8, 2) := by decide +kernel
theorem zd_Ref_gainOf_100 : decode prog_13_method_17_code 100 = .ok (.aload_n 0, 1) := by decide +kernel
theorem zd_Ref_gainOf_101 : decode prog_13_method_17_code 101 = .ok (.getfield 86, 3) := by decide +kernel
theorem zd_Ref_gainOf_104 : decode prog_13_method_17_code 104 = .ok (.ifCond .ne 58, 3) := by decide +kernel
theorem zd_Ref_gainOf_107 : decode prog_13_method_17_code 107 = .ok (.aload_n 0, 1) := by decide +kernel
theorem zd_Ref_gainOf_108 : decode prog_13_method_17_code 108 = .ok (.dup, 1) := by decide +kernel
theorem zd_Ref_gainOf_109 : decode prog_13_method_17_code 109 = .ok (.getfield 109, 3) := by decide +kernel
theorem zd_Ref_gainOf_112 : decode prog_13_method_17_code 112 = .ok (.iload 7, 2) := by decide +kernel
theorem zd_Ref_gainOf_114 : decode prog_13_method_17_code 114 = .ok (.iload 7, 2) := by decide +kernel
theorem zd_Ref_gainOf_116 : decode prog_13_method_17_code 116 = .ok (.imul, 1) := by decide +kernel
theorem zd_Ref_gainOf_117 : decode prog_13_method_17_code 117 = .ok (.iload_n 3, 1) := by decide +kernel
theorem zd_Ref_gainOf_118 : decode prog_13_method_17_code 118 = .ok (.iload 4, 2) := by decide +kernel
theorem zd_Ref_gainOf_120 : decode prog_13_method_17_code 120 = .ok (.iadd, 1) := by decide +kernel
theorem zd_Ref_gainOf_121 : decode prog_13_method_17_code 121 = .ok (.imul, 1) := by decide +kernel
theorem zd_Ref_gainOf_122 : decode prog_13_method_17_code 122 = .ok (.iload 4, 2) := by decide +kernel
theorem zd_Ref_gainOf_124 : decode prog_13_method_17_code 124 = .ok (.imul, 1) := by decide +kernel
theorem zd_Ref_gainOf_125 : decode prog_13_method_17_code 125 = .ok (.iload 8, 2) := by decide +kernel
theorem zd_Ref_gainOf_127 : decode prog_13_method_17_code 127 = .ok (.iload 8, 2) := by decide +kernel
theorem zd_Ref_gainOf_129 : decode prog_13_method_17_code 129 = .ok (.imul, 1) := by decide +kernel
theorem zd_Ref_gainOf_130 : decode prog_13_method_17_code 130 = .ok (.iload_n 3, 1) := by decide +kernel
theorem zd_Ref_gainOf_131 : decode prog_13_method_17_code 131 = .ok (.iload 4, 2) := by decide +kernel
theorem zd_Ref_gainOf_133 : decode prog_13_method_17_code 133 = .ok (.iadd, 1) := by decide +kernel
theorem zd_Ref_gainOf_134 : decode prog_13_method_17_code 134 = .ok (.imul, 1) := by decide +kernel
theorem zd_Ref_gainOf_135 : decode prog_13_method_17_code 135 = .ok (.iload_n 3, 1) := by decide +kernel
theorem zd_Ref_gainOf_136 : decode prog_13_method_17_code 136 = .ok (.imul, 1) := by decide +kernel
theorem zd_Ref_gainOf_137 : decode prog_13_method_17_code 137 = .ok (.iadd, 1) := by decide +kernel
theorem zd_Ref_gainOf_138 : decode prog_13_method_17_code 138 = .ok (.iload 7, 2) := by decide +kernel
theorem zd_Ref_gainOf_140 : decode prog_13_method_17_code 140 = .ok (.iload 8, 2) := by decide +kernel
theorem zd_Ref_gainOf_142 : decode prog_13_method_17_code 142 = .ok (.iadd, 1) := by decide +kernel
theorem zd_Ref_gainOf_143 : decode prog_13_method_17_code 143 = .ok (.iload 7, 2) := by decide +kernel
theorem zd_Ref_gainOf_145 : decode prog_13_method_17_code 145 = .ok (.iload 8, 2) := by decide +kernel
theorem zd_Ref_gainOf_147 : decode prog_13_method_17_code 147 = .ok (.iadd, 1) := by decide +kernel
theorem zd_Ref_gainOf_148 : decode prog_13_method_17_code 148 = .ok (.imul, 1) := by decide +kernel
theorem zd_Ref_gainOf_149 : decode prog_13_method_17_code 149 = .ok (.iload_n 3, 1) := by decide +kernel
theorem zd_Ref_gainOf_150 : decode prog_13_method_17_code 150 = .ok (.imul, 1) := by decide +kernel
theorem zd_Ref_gainOf_151 : decode prog_13_method_17_code 151 = .ok (.iload 4, 2) := by decide +kernel
theorem zd_Ref_gainOf_153 : decode prog_13_method_17_code 153 = .ok (.imul, 1) := by decide +kernel
theorem zd_Ref_gainOf_154 : decode prog_13_method_17_code 154 = .ok (.isub, 1) := by decide +kernel
theorem zd_Ref_gainOf_155 : decode prog_13_method_17_code 155 = .ok (.iadd, 1) := by decide +kernel
theorem zd_Ref_gainOf_156 : decode prog_13_method_17_code 156 = .ok (.putfield 109, 3) := by decide +kernel
theorem zd_Ref_gainOf_159 : decode prog_13_method_17_code 159 = .ok (.goto 33, 3) := by decide +kernel
theorem zd_Ref_gainOf_162 : decode prog_13_method_17_code 162 = .ok (.iload 7, 2) := by decide +kernel
theorem zd_Ref_gainOf_164 : decode prog_13_method_17_code 164 = .ok (.iload 4, 2) := by decide +kernel
theorem zd_Ref_gainOf_166 : decode prog_13_method_17_code 166 = .ok (.imul, 1) := by decide +kernel
theorem zd_Ref_gainOf_167 : decode prog_13_method_17_code 167 = .ok (.iload 8, 2) := by decide +kernel
theorem zd_Ref_gainOf_169 : decode prog_13_method_17_code 169 = .ok (.iload_n 3, 1) := by decide +kernel
theorem zd_Ref_gainOf_170 : decode prog_13_method_17_code 170 = .ok (.imul, 1) := by decide +kernel
theorem zd_Ref_gainOf_171 : decode prog_13_method_17_code 171 = .ok (.isub, 1) := by decide +kernel
theorem zd_Ref_gainOf_172 : decode prog_13_method_17_code 172 = .ok (.istore 9, 2) := by decide +kernel
theorem zd_Ref_gainOf_174 : decode prog_13_method_17_code 174 = .ok (.iload 5, 2) := by decide +kernel
theorem zd_Ref_gainOf_176 : decode prog_13_method_17_code 176 = .ok (.iload 9, 2) := by decide +kernel
theorem zd_Ref_gainOf_178 : decode prog_13_method_17_code 178 = .ok (.ifCond .ge 9, 3) := by decide +kernel
theorem zd_Ref_gainOf_181 : decode prog_13_method_17_code 181 = .ok (.iload 9, 2) := by decide +kernel
theorem zd_Ref_gainOf_183 : decode prog_13_method_17_code 183 = .ok (.ineg, 1) := by decide +kernel
theorem zd_Ref_gainOf_184 : decode prog_13_method_17_code 184 = .ok (.goto 5, 3) := by decide +kernel
theorem zd_Ref_gainOf_187 : decode prog_13_method_17_code 187 = .ok (.iload 9, 2) := by decide +kernel
theorem zd_Ref_gainOf_189 : decode prog_13_method_17_code 189 = .ok (.iadd, 1) := by decide +kernel
theorem zd_Ref_gainOf_190 : decode prog_13_method_17_code 190 = .ok (.istore 5, 2) := by decide +kernel
theorem zd_Ref_gainOf_192 : decode prog_13_method_17_code 192 = .ok (.iinc 6 1, 3) := by decide +kernel
theorem zd_Ref_gainOf_195 : decode prog_13_method_17_code 195 = .ok (.goto (-119), 3) := by decide +kernel
theorem zd_Ref_gainOf_198 : decode prog_13_method_17_code 198 = .ok (.aload_n 0, 1) := by decide +kernel
theorem zd_Ref_gainOf_199 : decode prog_13_method_17_code 199 = .ok (.aload_n 0, 1) := by decide +kernel
theorem zd_Ref_gainOf_200 : decode prog_13_method_17_code 200 = .ok (.getfield 86, 3) := by decide +kernel
theorem zd_Ref_gainOf_203 : decode prog_13_method_17_code 203 = .ok (.ifCond .ne 10, 3) := by decide +kernel
theorem zd_Ref_gainOf_206 : decode prog_13_method_17_code 206 = .ok (.aload_n 0, 1) := by decide +kernel
theorem zd_Ref_gainOf_207 : decode prog_13_method_17_code 207 = .ok (.getfield 109, 3) := by decide +kernel
theorem zd_Ref_gainOf_210 : decode prog_13_method_17_code 210 = .ok (.goto 8, 3) := by decide +kernel
theorem zd_Ref_gainOf_213 : decode prog_13_method_17_code 213 = .ok (.iload 5, 2) := by decide +kernel
theorem zd_Ref_gainOf_215 : decode prog_13_method_17_code 215 = .ok (.iload 5, 2) := by decide +kernel
theorem zd_Ref_gainOf_217 : decode prog_13_method_17_code 217 = .ok (.imul, 1) := by decide +kernel
theorem zd_Ref_gainOf_218 : decode prog_13_method_17_code 218 = .ok (.putfield 109, 3) := by decide +kernel
theorem zd_Ref_gainOf_221 : decode prog_13_method_17_code 221 = .ok (.return_, 1) := by decide +kernel
def zm_Ref_greatest : zg_M := (⟨"SurrogateTreeModel", "greatest", "(I)I"⟩, prog_13_method_16_code, 2, (some .int))
theorem zd_Ref_greatest_0 : decode prog_13_method_16_code 0 = .ok (.aload_n 0, 1) := by decide +kernel
theorem zd_Ref_greatest_1 : decode prog_13_method_16_code 1 = .ok (.iload_n 1, 1) := by decide +kernel
theorem zd_Ref_greatest_2 : decode prog_13_method_16_code 2 = .ok (.aload_n 0, 1) := by decide +kernel
theorem zd_Ref_greatest_3 : decode prog_13_method_16_code 3 = .ok (.iload_n 1, 1) := by decide +kernel
theorem zd_Ref_greatest_4 : decode prog_13_method_16_code 4 = .ok (.invokevirtual 102, 3) := by decide +kernel
theorem zd_Ref_greatest_7 : decode prog_13_method_16_code 7 = .ok (.invokevirtual 98, 3) := by decide +kernel
theorem zd_Ref_greatest_10 : decode prog_13_method_16_code 10 = .ok (.ireturn, 1) := by decide +kernel
def zm_Ref_classIn : zg_M := (⟨"SurrogateTreeModel", "classIn", "(I)I"⟩, prog_13_method_14_code, 4, (some .int))
theorem zd_Ref_classIn_0 : decode prog_13_method_14_code 0 = .ok (.iconst 0, 1) := by decide +kernel
theorem zd_Ref_classIn_1 : decode prog_13_method_14_code 1 = .ok (.istore_n 2, 1) := by decide +kernel
theorem zd_Ref_classIn_2 : decode prog_13_method_14_code 2 = .ok (.iconst 1, 1) := by decide +kernel
theorem zd_Ref_classIn_3 : decode prog_13_method_14_code 3 = .ok (.istore_n 3, 1) := by decide +kernel
theorem zd_Ref_classIn_4 : decode prog_13_method_14_code 4 = .ok (.iload_n 3, 1) := by decide +kernel
theorem zd_Ref_classIn_5 : decode prog_13_method_14_code 5 = .ok (.iconst 4, 1) := by decide +kernel
theorem zd_Ref_classIn_6 : decode prog_13_method_14_code 6 = .ok (.if_icmp .ge 30, 3) := by decide +kernel
theorem zd_Ref_classIn_9 : decode prog_13_method_14_code 9 = .ok (.aload_n 0, 1) := by decide +kernel
theorem zd_Ref_classIn_10 : decode prog_13_method_14_code 10 = .ok (.iload_n 1, 1) := by decide +kernel
theorem zd_Ref_classIn_11 : decode prog_13_method_14_code 11 = .ok (.iload_n 3, 1) := by decide +kernel
theorem zd_Ref_classIn_12 : decode prog_13_method_14_code 12 = .ok (.invokevirtual 98, 3) := by decide +kernel
theorem zd_Ref_classIn_15 : decode prog_13_method_14_code 15 = .ok (.aload_n 0, 1) := by decide +kernel
theorem zd_Ref_classIn_16 : decode prog_13_method_14_code 16 = .ok (.iload_n 1, 1) := by decide +kernel
theorem zd_Ref_classIn_17 : decode prog_13_method_14_code 17 = .ok (.iload_n 2, 1) := by decide +kernel
theorem zd_Ref_classIn_18 : decode prog_13_method_14_code 18 = .ok (.invokevirtual 98, 3) := by decide +kernel
theorem zd_Ref_classIn_21 : decode prog_13_method_14_code 21 = .ok (.if_icmp .le 7, 3) := by decide +kernel
theorem zd_Ref_classIn_24 : decode prog_13_method_14_code 24 = .ok (.iload_n 3, 1) := by decide +kernel
theorem zd_Ref_classIn_25 : decode prog_13_method_14_code 25 = .ok (.goto 4, 3) := by decide +kernel
theorem zd_Ref_classIn_28 : decode prog_13_method_14_code 28 = .ok (.iload_n 2, 1) := by decide +kernel
theorem zd_Ref_classIn_29 : decode prog_13_method_14_code 29 = .ok (.istore_n 2, 1) := by decide +kernel
theorem zd_Ref_classIn_30 : decode prog_13_method_14_code 30 = .ok (.iinc 3 1, 3) := by decide +kernel
theorem zd_Ref_classIn_33 : decode prog_13_method_14_code 33 = .ok (.goto (-29), 3) := by decide +kernel
theorem zd_Ref_classIn_36 : decode prog_13_method_14_code 36 = .ok (.iload_n 2, 1) := by decide +kernel
theorem zd_Ref_classIn_37 : decode prog_13_method_14_code 37 = .ok (.ireturn, 1) := by decide +kernel
def zm_Ref_goes : zg_M := (⟨"SurrogateTreeModel", "goes", "(IIII)I"⟩, prog_13_method_22_code, 11, (some .int))
theorem zd_Ref_goes_0 : decode prog_13_method_22_code 0 = .ok (.aload_n 0, 1) := by decide +kernel
theorem zd_Ref_goes_1 : decode prog_13_method_22_code 1 = .ok (.getfield 35, 3) := by decide +kernel
theorem zd_Ref_goes_4 : decode prog_13_method_22_code 4 = .ok (.iload_n 1, 1) := by decide +kernel
theorem zd_Ref_goes_5 : decode prog_13_method_22_code 5 = .ok (.iaload, 1) := by decide +kernel
theorem zd_Ref_goes_6 : decode prog_13_method_22_code 6 = .ok (.istore 5, 2) := by decide +kernel
theorem zd_Ref_goes_8 : decode prog_13_method_22_code 8 = .ok (.iload 5, 2) := by decide +kernel
theorem zd_Ref_goes_10 : decode prog_13_method_22_code 10 = .ok (.ifCond .ne 7, 3) := by decide +kernel
theorem zd_Ref_goes_13 : decode prog_13_method_22_code 13 = .ok (.iload_n 2, 1) := by decide +kernel
theorem zd_Ref_goes_14 : decode prog_13_method_22_code 14 = .ok (.goto 15, 3) := by decide +kernel
theorem zd_Ref_goes_17 : decode prog_13_method_22_code 17 = .ok (.iload 5, 2) := by decide +kernel
theorem zd_Ref_goes_19 : decode prog_13_method_22_code 19 = .ok (.iconst 1, 1) := by decide +kernel
theorem zd_Ref_goes_20 : decode prog_13_method_22_code 20 = .ok (.if_icmp .ne 7, 3) := by decide +kernel
theorem zd_Ref_goes_23 : decode prog_13_method_22_code 23 = .ok (.iload_n 3, 1) := by decide +kernel
theorem zd_Ref_goes_24 : decode prog_13_method_22_code 24 = .ok (.goto 5, 3) := by decide +kernel
theorem zd_Ref_goes_27 : decode prog_13_method_22_code 27 = .ok (.iload 4, 2) := by decide +kernel
theorem zd_Ref_goes_29 : decode prog_13_method_22_code 29 = .ok (.istore 6, 2) := by decide +kernel
theorem zd_Ref_goes_31 : decode prog_13_method_22_code 31 = .ok (.iload 6, 2) := by decide +kernel
theorem zd_Ref_goes_33 : decode prog_13_method_22_code 33 = .ok (.ldc 97, 2) := by decide +kernel
theorem zd_Ref_goes_35 : decode prog_13_method_22_code 35 = .ok (.if_icmp .eq 26, 3) := by decide +kernel
theorem zd_Ref_goes_38 : decode prog_13_method_22_code 38 = .ok (.iload 6, 2) := by decide +kernel
theorem zd_Ref_goes_40 : decode prog_13_method_22_code 40 = .ok (.aload_n 0, 1) := by decide +kernel
theorem zd_Ref_goes_41 : decode prog_13_method_22_code 41 = .ok (.getfield 38, 3) := by decide +kernel
theorem zd_Ref_goes_44 : decode prog_13_method_22_code 44 = .ok (.iload_n 1, 1) := by decide +kernel
theorem zd_Ref_goes_45 : decode prog_13_method_22_code 45 = .ok (.iaload, 1) := by decide +kernel
theorem zd_Ref_goes_46 : decode prog_13_method_22_code 46 = .ok (.if_icmp .gt 9, 3) := by decide +kernel
theorem zd_Ref_goes_49 : decode prog_13_method_22_code 49 = .ok (.iconst 2, 1) := by decide +kernel
theorem zd_Ref_goes_50 : decode prog_13_method_22_code 50 = .ok (.iload_n 1, 1) := by decide +kernel
theorem zd_Ref_goes_51 : decode prog_13_method_22_code 51 = .ok (.imul, 1) := by decide +kernel
theorem zd_Ref_goes_52 : decode prog_13_method_22_code 52 = .ok (.goto 8, 3) := by decide +kernel
theorem zd_Ref_goes_55 : decode prog_13_method_22_code 55 = .ok (.iconst 2, 1) := by decide +kernel
theorem zd_Ref_goes_56 : decode prog_13_method_22_code 56 = .ok (.iload_n 1, 1) := by decide +kernel
theorem zd_Ref_goes_57 : decode prog_13_method_22_code 57 = .ok (.imul, 1) := by decide +kernel
theorem zd_Ref_goes_58 : decode prog_13_method_22_code 58 = .ok (.iconst 1, 1) := by decide +kernel
theorem zd_Ref_goes_59 : decode prog_13_method_22_code 59 = .ok (.iadd, 1) := by decide +kernel
theorem zd_Ref_goes_60 : decode prog_13_method_22_code 60 = .ok (.ireturn, 1) := by decide +kernel
theorem zd_Ref_goes_61 : decode prog_13_method_22_code 61 = .ok (.aload_n 0, 1) := by decide +kernel
theorem zd_Ref_goes_62 : decode prog_13_method_22_code 62 = .ok (.iload_n 1, 1) := by decide +kernel
theorem zd_Ref_goes_63 : decode prog_13_method_22_code 63 = .ok (.invokevirtual 158, 3) := by decide +kernel
theorem zd_Ref_goes_66 : decode prog_13_method_22_code 66 = .ok (.iconst 0, 1) := by decide +kernel
theorem zd_Ref_goes_67 : decode prog_13_method_22_code 67 = .ok (.istore 7, 2) := by decide +kernel
theorem zd_Ref_goes_69 : decode prog_13_method_22_code 69 = .ok (.iload 7, 2) := by decide +kernel
theorem zd_Ref_goes_71 : decode prog_13_method_22_code 71 = .ok (.aload_n 0, 1) := by decide +kernel
theorem zd_Ref_goes_72 : decode prog_13_method_22_code 72 = .ok (.getfield 152, 3) := by decide +kernel
theorem zd_Ref_goes_75 : decode prog_13_method_22_code 75 = .ok (.if_icmp .ge 108, 3) := by decide +kernel
theorem zd_Ref_goes_78 : decode prog_13_method_22_code 78 = .ok (.aload_n 0, 1) := by decide +kernel
theorem zd_Ref_goes_79 : decode prog_13_method_22_code 79 = .ok (.getfield 41, 3) := by decide +kernel
theorem zd_Ref_goes_82 : decode prog_13_method_22_code 82 = .ok (.iload 7, 2) := by decide +kernel
theorem zd_Ref_goes_84 : decode prog_13_method_22_code 84 = .ok (.iaload, 1) := by decide +kernel
theorem zd_Ref_goes_85 : decode prog_13_method_22_code 85 = .ok (.istore 8, 2) := by decide +kernel
theorem zd_Ref_goes_87 : decode prog_13_method_22_code 87 = .ok (.iload 8, 2) := by decide +kernel
theorem zd_Ref_goes_89 : decode prog_13_method_22_code 89 = .ok (.ifCond .ne 7, 3) := by decide +kernel
theorem zd_Ref_goes_92 : decode prog_13_method_22_code 92 = .ok (.iload_n 2, 1) := by decide +kernel
theorem zd_Ref_goes_93 : decode prog_13_method_22_code 93 = .ok (.goto 15, 3) := by decide +kernel
theorem zd_Ref_goes_96 : decode prog_13_method_22_code 96 = .ok (.iload 8, 2) := by decide +kernel
theorem zd_Ref_goes_98 : decode prog_13_method_22_code 98 = .ok (.iconst 1, 1) := by decide +kernel
theorem zd_Ref_goes_99 : decode prog_13_method_22_code 99 = .ok (.if_icmp .ne 7, 3) := by decide +kernel
theorem zd_Ref_goes_102 : decode prog_13_method_22_code 102 = .ok (.iload_n 3, 1) := by decide +kernel
theorem zd_Ref_goes_103 : decode prog_13_method_22_code 103 = .ok (.goto 5, 3) := by decide +kernel
theorem zd_Ref_goes_106 : decode prog_13_method_22_code 106 = .ok (.iload 4, 2) := by decide +kernel
theorem zd_Ref_goes_108 : decode prog_13_method_22_code 108 = .ok (.istore 9, 2) := by decide +kernel
theorem zd_Ref_goes_110 : decode prog_13_method_22_code 110 = .ok (.iload 9, 2) := by decide +kernel
theorem zd_Ref_goes_112 : decode prog_13_method_22_code 112 = .ok (.ldc 97, 2) := by decide +kernel
theorem zd_Ref_goes_114 : decode prog_13_method_22_code 114 = .ok (.if_icmp .eq 63, 3) := by decide +kernel
theorem zd_Ref_goes_117 : decode prog_13_method_22_code 117 = .ok (.iload 9, 2) := by decide +kernel
theorem zd_Ref_goes_119 : decode prog_13_method_22_code 119 = .ok (.aload_n 0, 1) := by decide +kernel
theorem zd_Ref_goes_120 : decode prog_13_method_22_code 120 = .ok (.getfield 44, 3) := by decide +kernel
theorem zd_Ref_goes_123 : decode prog_13_method_22_code 123 = .ok (.iload 7, 2) := by decide +kernel
theorem zd_Ref_goes_125 : decode prog_13_method_22_code 125 = .ok (.iaload, 1) := by decide +kernel
theorem zd_Ref_goes_126 : decode prog_13_method_22_code 126 = .ok (.if_icmp .gt 7, 3) := by decide +kernel
theorem zd_Ref_goes_129 : decode prog_13_method_22_code 129 = .ok (.iconst 1, 1) := by decide +kernel
theorem zd_Ref_goes_130 : decode prog_13_method_22_code 130 = .ok (.goto 4, 3) := by decide +kernel
theorem zd_Ref_goes_133 : decode prog_13_method_22_code 133 = .ok (.iconst 0, 1) := by decide +kernel
theorem zd_Ref_goes_134 : decode prog_13_method_22_code 134 = .ok (.aload_n 0, 1) := by decide +kernel
theorem zd_Ref_goes_135 : decode prog_13_method_22_code 135 = .ok (.getfield 47, 3) := by decide +kernel
theorem zd_Ref_goes_138 : decode prog_13_method_22_code 138 = .ok (.iload 7, 2) := by decide +kernel
theorem zd_Ref_goes_140 : decode prog_13_method_22_code 140 = .ok (.iaload, 1) := by decide +kernel
theorem zd_Ref_goes_141 : decode prog_13_method_22_code 141 = .ok (.iconst 1, 1) := by decide +kernel
theorem zd_Ref_goes_142 : decode prog_13_method_22_code 142 = .ok (.if_icmp .ne 7, 3) := by decide +kernel
theorem zd_Ref_goes_145 : decode prog_13_method_22_code 145 = .ok (.iconst 1, 1) := by decide +kernel
theorem zd_Ref_goes_146 : decode prog_13_method_22_code 146 = .ok (.goto 4, 3) := by decide +kernel
theorem zd_Ref_goes_149 : decode prog_13_method_22_code 149 = .ok (.iconst 0, 1) := by decide +kernel
theorem zd_Ref_goes_150 : decode prog_13_method_22_code 150 = .ok (.if_icmp .eq 7, 3) := by decide +kernel
theorem zd_Ref_goes_153 : decode prog_13_method_22_code 153 = .ok (.iconst 1, 1) := by decide +kernel
theorem zd_Ref_goes_154 : decode prog_13_method_22_code 154 = .ok (.goto 4, 3) := by decide +kernel
theorem zd_Ref_goes_157 : decode prog_13_method_22_code 157 = .ok (.iconst 0, 1) := by decide +kernel
theorem zd_Ref_goes_158 : decode prog_13_method_22_code 158 = .ok (.istore 10, 2) := by decide +kernel
theorem zd_Ref_goes_160 : decode prog_13_method_22_code 160 = .ok (.iload 10, 2) := by decide +kernel
theorem zd_Ref_goes_162 : decode prog_13_method_22_code 162 = .ok (.ifCond .eq 9, 3) := by decide +kernel
theorem zd_Ref_goes_165 : decode prog_13_method_22_code 165 = .ok (.iconst 2, 1) := by decide +kernel
theorem zd_Ref_goes_166 : decode prog_13_method_22_code 166 = .ok (.iload_n 1, 1) := by decide +kernel
theorem zd_Ref_goes_167 : decode prog_13_method_22_code 167 = .ok (.imul, 1) := by decide +kernel
theorem zd_Ref_goes_168 : decode prog_13_method_22_code 168 = .ok (.goto 8, 3) := by decide +kernel
theorem zd_Ref_goes_171 : decode prog_13_method_22_code 171 = .ok (.iconst 2, 1) := by decide +kernel
theorem zd_Ref_goes_172 : decode prog_13_method_22_code 172 = .ok (.iload_n 1, 1) := by decide +kernel
theorem zd_Ref_goes_173 : decode prog_13_method_22_code 173 = .ok (.imul, 1) := by decide +kernel
theorem zd_Ref_goes_174 : decode prog_13_method_22_code 174 = .ok (.iconst 1, 1) := by decide +kernel
theorem zd_Ref_goes_175 : decode prog_13_method_22_code 175 = .ok (.iadd, 1) := by decide +kernel
theorem zd_Ref_goes_176 : decode prog_13_method_22_code 176 = .ok (.ireturn, 1) := by decide +kernel
theorem zd_Ref_goes_177 : decode prog_13_method_22_code 177 = .ok (.iinc 7 1, 3) := by decide +kernel
theorem zd_Ref_goes_180 : decode prog_13_method_22_code 180 = .ok (.goto (-111), 3) := by decide +kernel
theorem zd_Ref_goes_183 : decode prog_13_method_22_code 183 = .ok (.aload_n 0, 1) := by decide +kernel
theorem zd_Ref_goes_184 : decode prog_13_method_22_code 184 = .ok (.aload_n 0, 1) := by decide +kernel
theorem zd_Ref_goes_185 : decode prog_13_method_22_code 185 = .ok (.getfield 32, 3) := by decide +kernel
theorem zd_Ref_goes_188 : decode prog_13_method_22_code 188 = .ok (.iload_n 1, 1) := by decide +kernel
theorem zd_Ref_goes_189 : decode prog_13_method_22_code 189 = .ok (.iaload, 1) := by decide +kernel
theorem zd_Ref_goes_190 : decode prog_13_method_22_code 190 = .ok (.iload 5, 2) := by decide +kernel
theorem zd_Ref_goes_192 : decode prog_13_method_22_code 192 = .ok (.invokevirtual 118, 3) := by decide +kernel
theorem zd_Ref_goes_195 : decode prog_13_method_22_code 195 = .ok (.istore 7, 2) := by decide +kernel
theorem zd_Ref_goes_197 : decode prog_13_method_22_code 197 = .ok (.aload_n 0, 1) := by decide +kernel
theorem zd_Ref_goes_198 : decode prog_13_method_22_code 198 = .ok (.iload 7, 2) := by decide +kernel
theorem zd_Ref_goes_200 : decode prog_13_method_22_code 200 = .ok (.iload 5, 2) := by decide +kernel
theorem zd_Ref_goes_202 : decode prog_13_method_22_code 202 = .ok (.aload_n 0, 1) := by decide +kernel
theorem zd_Ref_goes_203 : decode prog_13_method_22_code 203 = .ok (.getfield 38, 3) := by decide +kernel
theorem zd_Ref_goes_206 : decode prog_13_method_22_code 206 = .ok (.iload_n 1, 1) := by decide +kernel
theorem zd_Ref_goes_207 : decode prog_13_method_22_code 207 = .ok (.iaload, 1) := by decide +kernel
theorem zd_Ref_goes_208 : decode prog_13_method_22_code 208 = .ok (.invokevirtual 129, 3) := by decide +kernel
theorem zd_Ref_goes_211 : decode prog_13_method_22_code 211 = .ok (.istore 8, 2) := by decide +kernel
theorem zd_Ref_goes_213 : decode prog_13_method_22_code 213 = .ok (.aload_n 0, 1) := by decide +kernel
theorem zd_Ref_goes_214 : decode prog_13_method_22_code 214 = .ok (.iload 8, 2) := by decide +kernel
theorem zd_Ref_goes_216 : decode prog_13_method_22_code 216 = .ok (.iconst (-1), 1) := by decide +kernel
theorem zd_Ref_goes_217 : decode prog_13_method_22_code 217 = .ok (.invokevirtual 98, 3) := by decide +kernel
theorem zd_Ref_goes_220 : decode prog_13_method_22_code 220 = .ok (.aload_n 0, 1) := by decide +kernel
theorem zd_Ref_goes_221 : decode prog_13_method_22_code 221 = .ok (.iload 7, 2) := by decide +kernel
theorem zd_Ref_goes_223 : decode prog_13_method_22_code 223 = .ok (.iload 8, 2) := by decide +kernel
theorem zd_Ref_goes_225 : decode prog_13_method_22_code 225 = .ok (.iconst (-1), 1) := by decide +kernel
theorem zd_Ref_goes_226 : decode prog_13_method_22_code 226 = .ok (.ixor, 1) := by decide +kernel
theorem zd_Ref_goes_227 : decode prog_13_method_22_code 227 = .ok (.iand, 1) := by decide +kernel
theorem zd_Ref_goes_228 : decode prog_13_method_22_code 228 = .ok (.iconst (-1), 1) := by decide +kernel
theorem zd_Ref_goes_229 : decode prog_13_method_22_code 229 = .ok (.invokevirtual 98, 3) := by decide +kernel
theorem zd_Ref_goes_232 : decode prog_13_method_22_code 232 = .ok (.if_icmp .lt 9, 3) := by decide +kernel
theorem zd_Ref_goes_235 : decode prog_13_method_22_code 235 = .ok (.iconst 2, 1) := by decide +kernel
theorem zd_Ref_goes_236 : decode prog_13_method_22_code 236 = .ok (.iload_n 1, 1) := by decide +kernel
theorem zd_Ref_goes_237 : decode prog_13_method_22_code 237 = .ok (.imul, 1) := by decide +kernel
theorem zd_Ref_goes_238 : decode prog_13_method_22_code 238 = .ok (.goto 8, 3) := by decide +kernel
theorem zd_Ref_goes_241 : decode prog_13_method_22_code 241 = .ok (.iconst 2, 1) := by decide +kernel
theorem zd_Ref_goes_242 : decode prog_13_method_22_code 242 = .ok (.iload_n 1, 1) := by decide +kernel
theorem zd_Ref_goes_243 : decode prog_13_method_22_code 243 = .ok (.imul, 1) := by decide +kernel
theorem zd_Ref_goes_244 : decode prog_13_method_22_code 244 = .ok (.iconst 1, 1) := by decide +kernel
theorem zd_Ref_goes_245 : decode prog_13_method_22_code 245 = .ok (.iadd, 1) := by decide +kernel
theorem zd_Ref_goes_246 : decode prog_13_method_22_code 246 = .ok (.ireturn, 1) := by decide +kernel
def zm_Ref_standIns : zg_M := (⟨"SurrogateTreeModel", "standIns", "(I)V"⟩, prog_13_method_21_code, 4, none)
theorem zd_Ref_standIns_0 : decode prog_13_method_21_code 0 = .ok (.aload_n 0, 1) := by decide +kernel
theorem zd_Ref_standIns_1 : decode prog_13_method_21_code 1 = .ok (.iconst 0, 1) := by decide +kernel
theorem zd_Ref_standIns_2 : decode prog_13_method_21_code 2 = .ok (.putfield 152, 3) := by decide +kernel
theorem zd_Ref_standIns_5 : decode prog_13_method_21_code 5 = .ok (.iconst 0, 1) := by decide +kernel
theorem zd_Ref_standIns_6 : decode prog_13_method_21_code 6 = .ok (.istore_n 2, 1) := by decide +kernel
theorem zd_Ref_standIns_7 : decode prog_13_method_21_code 7 = .ok (.iload_n 2, 1) := by decide +kernel
theorem zd_Ref_standIns_8 : decode prog_13_method_21_code 8 = .ok (.iconst 3, 1) := by decide +kernel
theorem zd_Ref_standIns_9 : decode prog_13_method_21_code 9 = .ok (.if_icmp .ge 157, 3) := by decide +kernel
theorem zd_Ref_standIns_12 : decode prog_13_method_21_code 12 = .ok (.iload_n 2, 1) := by decide +kernel
theorem zd_Ref_standIns_13 : decode prog_13_method_21_code 13 = .ok (.aload_n 0, 1) := by decide +kernel
theorem zd_Ref_standIns_14 : decode prog_13_method_21_code 14 = .ok (.getfield 35, 3) := by decide +kernel
theorem zd_Ref_standIns_17 : decode prog_13_method_21_code 17 = .ok (.iload_n 1, 1) := by decide +kernel
theorem zd_Ref_standIns_18 : decode prog_13_method_21_code 18 = .ok (.iaload, 1) := by decide +kernel
theorem zd_Ref_standIns_19 : decode prog_13_method_21_code 19 = .ok (.if_icmp .eq 141, 3) := by decide +kernel
theorem zd_Ref_standIns_22 : decode prog_13_method_21_code 22 = .ok (.aload_n 0, 1) := by decide +kernel
theorem zd_Ref_standIns_23 : decode prog_13_method_21_code 23 = .ok (.iload_n 1, 1) := by decide +kernel
theorem zd_Ref_standIns_24 : decode prog_13_method_21_code 24 = .ok (.iload_n 2, 1) := by decide +kernel
theorem zd_Ref_standIns_25 : decode prog_13_method_21_code 25 = .ok (.invokevirtual 155, 3) := by decide +kernel
theorem zd_Ref_standIns_28 : decode prog_13_method_21_code 28 = .ok (.ifCond .eq 132, 3) := by decide +kernel
theorem zd_Ref_standIns_31 : decode prog_13_method_21_code 31 = .ok (.aload_n 0, 1) := by decide +kernel
theorem zd_Ref_standIns_32 : decode prog_13_method_21_code 32 = .ok (.getfield 152, 3) := by decide +kernel
theorem zd_Ref_standIns_35 : decode prog_13_method_21_code 35 = .ok (.iconst 1, 1) := by decide +kernel
theorem zd_Ref_standIns_36 : decode prog_13_method_21_code 36 = .ok (.if_icmp .ne 20, 3) := by decide +kernel
theorem zd_Ref_standIns_39 : decode prog_13_method_21_code 39 = .ok (.aload_n 0, 1) := by decide +kernel
theorem zd_Ref_standIns_40 : decode prog_13_method_21_code 40 = .ok (.getfield 139, 3) := by decide +kernel
theorem zd_Ref_standIns_43 : decode prog_13_method_21_code 43 = .ok (.aload_n 0, 1) := by decide +kernel
theorem zd_Ref_standIns_44 : decode prog_13_method_21_code 44 = .ok (.getfield 50, 3) := by decide +kernel
theorem zd_Ref_standIns_47 : decode prog_13_method_21_code 47 = .ok (.iconst 0, 1) := by decide +kernel
theorem zd_Ref_standIns_48 : decode prog_13_method_21_code 48 = .ok (.iaload, 1) := by decide +kernel
theorem zd_Ref_standIns_49 : decode prog_13_method_21_code 49 = .ok (.if_icmp .le 7, 3) := by decide +kernel
theorem zd_Ref_standIns_52 : decode prog_13_method_21_code 52 = .ok (.iconst 0, 1) := by decide +kernel
theorem zd_Ref_standIns_53 : decode prog_13_method_21_code 53 = .ok (.goto 7, 3) := by decide +kernel
theorem zd_Ref_standIns_56 : decode prog_13_method_21_code 56 = .ok (.aload_n 0, 1) := by decide +kernel
theorem zd_Ref_standIns_57 : decode prog_13_method_21_code 57 = .ok (.getfield 152, 3) := by decide +kernel
theorem zd_Ref_standIns_60 : decode prog_13_method_21_code 60 = .ok (.istore_n 3, 1) := by decide +kernel
theorem zd_Ref_standIns_61 : decode prog_13_method_21_code 61 = .ok (.iload_n 3, 1) := by decide +kernel
theorem zd_Ref_standIns_62 : decode prog_13_method_21_code 62 = .ok (.ifCond .ne 51, 3) := by decide +kernel
theorem zd_Ref_standIns_65 : decode prog_13_method_21_code 65 = .ok (.aload_n 0, 1) := by decide +kernel
theorem zd_Ref_standIns_66 : decode prog_13_method_21_code 66 = .ok (.getfield 41, 3) := by decide +kernel
theorem zd_Ref_standIns_69 : decode prog_13_method_21_code 69 = .ok (.iconst 1, 1) := by decide +kernel
theorem zd_Ref_standIns_70 : decode prog_13_method_21_code 70 = .ok (.aload_n 0, 1) := by decide +kernel
theorem zd_Ref_standIns_71 : decode prog_13_method_21_code 71 = .ok (.getfield 41, 3) := by decide +kernel
theorem zd_Ref_standIns_74 : decode prog_13_method_21_code 74 = .ok (.iconst 0, 1) := by decide +kernel
theorem zd_Ref_standIns_75 : decode prog_13_method_21_code 75 = .ok (.iaload, 1) := by decide +kernel
theorem zd_Ref_standIns_76 : decode prog_13_method_21_code 76 = .ok (.iastore, 1) := by decide +kernel
theorem zd_Ref_standIns_77 : decode prog_13_method_21_code 77 = .ok (.aload_n 0, 1) := by decide +kernel
theorem zd_Ref_standIns_78 : decode prog_13_method_21_code 78 = .ok (.getfield 44, 3) := by decide +kernel
theorem zd_Ref_standIns_81 : decode prog_13_method_21_code 81 = .ok (.iconst 1, 1) := by decide +kernel
theorem zd_Ref_standIns_82 : decode prog_13_method_21_code 82 = .ok (.aload_n 0, 1) := by decide +kernel
theorem zd_Ref_standIns_83 : decode prog_13_method_21_code 83 = .ok (.getfield 44, 3) := by decide +kernel
theorem zd_Ref_standIns_86 : decode prog_13_method_21_code 86 = .ok (.iconst 0, 1) := by decide +kernel
theorem zd_Ref_standIns_87 : decode prog_13_method_21_code 87 = .ok (.iaload, 1) := by decide +kernel
theorem zd_Ref_standIns_88 : decode prog_13_method_21_code 88 = .ok (.iastore, 1) := by decide +kernel
theorem zd_Ref_standIns_89 : decode prog_13_method_21_code 89 = .ok (.aload_n 0, 1) := by decide +kernel
theorem zd_Ref_standIns_90 : decode prog_13_method_21_code 90 = .ok (.getfield 47, 3) := by decide +kernel
theorem zd_Ref_standIns_93 : decode prog_13_method_21_code 93 = .ok (.iconst 1, 1) := by decide +kernel
theorem zd_Ref_standIns_94 : decode prog_13_method_21_code 94 = .ok (.aload_n 0, 1) := by decide +kernel
theorem zd_Ref_standIns_95 : decode prog_13_method_21_code 95 = .ok (.getfield 47, 3) := by decide +kernel
theorem zd_Ref_standIns_98 : decode prog_13_method_21_code 98 = .ok (.iconst 0, 1) := by decide +kernel
theorem zd_Ref_standIns_99 : decode prog_13_method_21_code 99 = .ok (.iaload, 1) := by decide +kernel
theorem zd_Ref_standIns_100 : decode prog_13_method_21_code 100 = .ok (.iastore, 1) := by decide +kernel
theorem zd_Ref_standIns_101 : decode prog_13_method_21_code 101 = .ok (.aload_n 0, 1) := by decide +kernel
theorem zd_Ref_standIns_102 : decode prog_13_method_21_code 102 = .ok (.getfield 50, 3) := by decide +kernel
theorem zd_Ref_standIns_105 : decode prog_13_method_21_code 105 = .ok (.iconst 1, 1) := by decide +kernel
theorem zd_Ref_standIns_106 : decode prog_13_method_21_code 106 = .ok (.aload_n 0, 1) := by decide +kernel
theorem zd_Ref_standIns_107 : decode prog_13_method_21_code 107 = .ok (.getfield 50, 3) := by decide +kernel
theorem zd_Ref_standIns_110 : decode prog_13_method_21_code 110 = .ok (.iconst 0, 1) := by decide +kernel
theorem zd_Ref_standIns_111 : decode prog_13_method_21_code 111 = .ok (.iaload, 1) := by decide +kernel
theorem zd_Ref_standIns_112 : decode prog_13_method_21_code 112 = .ok (.iastore, 1) := by decide +kernel
theorem zd_Ref_standIns_113 : decode prog_13_method_21_code 113 = .ok (.aload_n 0, 1) := by decide +kernel
theorem zd_Ref_standIns_114 : decode prog_13_method_21_code 114 = .ok (.getfield 41, 3) := by decide +kernel
theorem zd_Ref_standIns_117 : decode prog_13_method_21_code 117 = .ok (.iload_n 3, 1) := by decide +kernel
theorem zd_Ref_standIns_118 : decode prog_13_method_21_code 118 = .ok (.iload_n 2, 1) := by decide +kernel
theorem zd_Ref_standIns_119 : decode prog_13_method_21_code 119 = .ok (.iastore, 1) := by decide +kernel
theorem zd_Ref_standIns_120 : decode prog_13_method_21_code 120 = .ok (.aload_n 0, 1) := by decide +kernel
theorem zd_Ref_standIns_121 : decode prog_13_method_21_code 121 = .ok (.getfield 44, 3) := by decide +kernel
theorem zd_Ref_standIns_124 : decode prog_13_method_21_code 124 = .ok (.iload_n 3, 1) := by decide +kernel
theorem zd_Ref_standIns_125 : decode prog_13_method_21_code 125 = .ok (.aload_n 0, 1) := by decide +kernel
theorem zd_Ref_standIns_126 : decode prog_13_method_21_code 126 = .ok (.getfield 146, 3) := by decide +kernel
theorem zd_Ref_standIns_129 : decode prog_13_method_21_code 129 = .ok (.iastore, 1) := by decide +kernel
theorem zd_Ref_standIns_130 : decode prog_13_method_21_code 130 = .ok (.aload_n 0, 1) := by decide +kernel
theorem zd_Ref_standIns_131 : decode prog_13_method_21_code 131 = .ok (.getfield 47, 3) := by decide +kernel
theorem zd_Ref_standIns_134 : decode prog_13_method_21_code 134 = .ok (.iload_n 3, 1) := by decide +kernel
theorem zd_Ref_standIns_135 : decode prog_13_method_21_code 135 = .ok (.aload_n 0, 1) := by decide +kernel
theorem zd_Ref_standIns_136 : decode prog_13_method_21_code 136 = .ok (.getfield 149, 3) := by decide +kernel
theorem zd_Ref_standIns_139 : decode prog_13_method_21_code 139 = .ok (.iastore, 1) := by decide +kernel
theorem zd_Ref_standIns_140 : decode prog_13_method_21_code 140 = .ok (.aload_n 0, 1) := by decide +kernel
theorem zd_Ref_standIns_141 : decode prog_13_method_21_code 141 = .ok (.getfield 50, 3) := by decide +kernel
theorem zd_Ref_standIns_144 : decode prog_13_method_21_code 144 = .ok (.iload_n 3, 1) := by decide +kernel
theorem zd_Ref_standIns_145 : decode prog_13_method_21_code 145 = .ok (.aload_n 0, 1) := by decide +kernel
theorem zd_Ref_standIns_146 : decode prog_13_method_21_code 146 = .ok (.getfield 139, 3) := by decide +kernel
theorem zd_Ref_standIns_149 : decode prog_13_method_21_code 149 = .ok (.iastore, 1) := by decide +kernel
theorem zd_Ref_standIns_150 : decode prog_13_method_21_code 150 = .ok (.aload_n 0, 1) := by decide +kernel
theorem zd_Ref_standIns_151 : decode prog_13_method_21_code 151 = .ok (.dup, 1) := by decide +kernel
theorem zd_Ref_standIns_152 : decode prog_13_method_21_code 152 = .ok (.getfield 152, 3) := by decide +kernel
theorem zd_Ref_standIns_155 : decode prog_13_method_21_code 155 = .ok (.iconst 1, 1) := by decide +kernel
theorem zd_Ref_standIns_156 : decode prog_13_method_21_code 156 = .ok (.iadd, 1) := by decide +kernel
theorem zd_Ref_standIns_157 : decode prog_13_method_21_code 157 = .ok (.putfield 152, 3) := by decide +kernel
theorem zd_Ref_standIns_160 : decode prog_13_method_21_code 160 = .ok (.iinc 2 1, 3) := by decide +kernel
theorem zd_Ref_standIns_163 : decode prog_13_method_21_code 163 = .ok (.goto (-156), 3) := by decide +kernel
theorem zd_Ref_standIns_166 : decode prog_13_method_21_code 166 = .ok (.return_, 1) := by decide +kernel
def zm_Ref_standIn : zg_M := (⟨"SurrogateTreeModel", "standIn", "(II)Z"⟩, prog_13_method_19_code, 15, (some .boolean))
theorem zd_Ref_standIn_0 : decode prog_13_method_19_code 0 = .ok (.aload_n 0, 1) := by decide +kernel
theorem zd_Ref_standIn_1 : decode prog_13_method_19_code 1 = .ok (.getfield 35, 3) := by decide +kernel
theorem zd_Ref_standIn_4 : decode prog_13_method_19_code 4 = .ok (.iload_n 1, 1) := by decide +kernel
theorem zd_Ref_standIn_5 : decode prog_13_method_19_code 5 = .ok (.iaload, 1) := by decide +kernel
theorem zd_Ref_standIn_6 : decode prog_13_method_19_code 6 = .ok (.istore_n 3, 1) := by decide +kernel
theorem zd_Ref_standIn_7 : decode prog_13_method_19_code 7 = .ok (.aload_n 0, 1) := by decide +kernel
theorem zd_Ref_standIn_8 : decode prog_13_method_19_code 8 = .ok (.aload_n 0, 1) := by decide +kernel
theorem zd_Ref_standIn_9 : decode prog_13_method_19_code 9 = .ok (.getfield 32, 3) := by decide +kernel
theorem zd_Ref_standIn_12 : decode prog_13_method_19_code 12 = .ok (.iload_n 1, 1) := by decide +kernel
theorem zd_Ref_standIn_13 : decode prog_13_method_19_code 13 = .ok (.iaload, 1) := by decide +kernel
theorem zd_Ref_standIn_14 : decode prog_13_method_19_code 14 = .ok (.iload_n 3, 1) := by decide +kernel
theorem zd_Ref_standIn_15 : decode prog_13_method_19_code 15 = .ok (.invokevirtual 118, 3) := by decide +kernel
theorem zd_Ref_standIn_18 : decode prog_13_method_19_code 18 = .ok (.istore 4, 2) := by decide +kernel
theorem zd_Ref_standIn_20 : decode prog_13_method_19_code 20 = .ok (.aload_n 0, 1) := by decide +kernel
theorem zd_Ref_standIn_21 : decode prog_13_method_19_code 21 = .ok (.iload 4, 2) := by decide +kernel
theorem zd_Ref_standIn_23 : decode prog_13_method_19_code 23 = .ok (.iload_n 2, 1) := by decide +kernel
theorem zd_Ref_standIn_24 : decode prog_13_method_19_code 24 = .ok (.invokevirtual 118, 3) := by decide +kernel
theorem zd_Ref_standIn_27 : decode prog_13_method_19_code 27 = .ok (.istore 5, 2) := by decide +kernel
theorem zd_Ref_standIn_29 : decode prog_13_method_19_code 29 = .ok (.aload_n 0, 1) := by decide +kernel
theorem zd_Ref_standIn_30 : decode prog_13_method_19_code 30 = .ok (.iload 5, 2) := by decide +kernel
theorem zd_Ref_standIn_32 : decode prog_13_method_19_code 32 = .ok (.iload_n 3, 1) := by decide +kernel
theorem zd_Ref_standIn_33 : decode prog_13_method_19_code 33 = .ok (.aload_n 0, 1) := by decide +kernel
theorem zd_Ref_standIn_34 : decode prog_13_method_19_code 34 = .ok (.getfield 38, 3) := by decide +kernel
theorem zd_Ref_standIn_37 : decode prog_13_method_19_code 37 = .ok (.iload_n 1, 1) := by decide +kernel
theorem zd_Ref_standIn_38 : decode prog_13_method_19_code 38 = .ok (.iaload, 1) := by decide +kernel
theorem zd_Ref_standIn_39 : decode prog_13_method_19_code 39 = .ok (.invokevirtual 129, 3) := by decide +kernel
theorem zd_Ref_standIn_42 : decode prog_13_method_19_code 42 = .ok (.istore 6, 2) := by decide +kernel
theorem zd_Ref_standIn_44 : decode prog_13_method_19_code 44 = .ok (.iload 5, 2) := by decide +kernel
theorem zd_Ref_standIn_46 : decode prog_13_method_19_code 46 = .ok (.iload 6, 2) := by decide +kernel
theorem zd_Ref_standIn_48 : decode prog_13_method_19_code 48 = .ok (.iconst (-1), 1) := by decide +kernel
theorem zd_Ref_standIn_49 : decode prog_13_method_19_code 49 = .ok (.ixor, 1) := by decide +kernel
theorem zd_Ref_standIn_50 : decode prog_13_method_19_code 50 = .ok (.iand, 1) := by decide +kernel
theorem zd_Ref_standIn_51 : decode prog_13_method_19_code 51 = .ok (.istore 7, 2) := by decide +kernel
theorem zd_Ref_standIn_53 : decode prog_13_method_19_code 53 = .ok (.aload_n 0, 1) := by decide +kernel
theorem zd_Ref_standIn_54 : decode prog_13_method_19_code 54 = .ok (.iconst (-1), 1) := by decide +kernel
theorem zd_Ref_standIn_55 : decode prog_13_method_19_code 55 = .ok (.putfield 139, 3) := by decide +kernel
theorem zd_Ref_standIn_58 : decode prog_13_method_19_code 58 = .ok (.iconst 0, 1) := by decide +kernel
theorem zd_Ref_standIn_59 : decode prog_13_method_19_code 59 = .ok (.istore 8, 2) := by decide +kernel
theorem zd_Ref_standIn_61 : decode prog_13_method_19_code 61 = .ok (.iload 8, 2) := by decide +kernel
theorem zd_Ref_standIn_63 : decode prog_13_method_19_code 63 = .ok (.sipush 256, 3) := by decide +kernel
theorem zd_Ref_standIn_66 : decode prog_13_method_19_code 66 = .ok (.if_icmp .ge 129, 3) := by decide +kernel
theorem zd_Ref_standIn_69 : decode prog_13_method_19_code 69 = .ok (.iload 8, 2) := by decide +kernel
theorem zd_Ref_standIn_71 : decode prog_13_method_19_code 71 = .ok (.iconst 4, 1) := by decide +kernel
theorem zd_Ref_standIn_72 : decode prog_13_method_19_code 72 = .ok (.ishr, 1) := by decide +kernel
theorem zd_Ref_standIn_73 : decode prog_13_method_19_code 73 = .ok (.istore 9, 2) := by decide +kernel
theorem zd_Ref_standIn_75 : decode prog_13_method_19_code 75 = .ok (.iload 8, 2) := by decide +kernel
theorem zd_Ref_standIn_77 : decode prog_13_method_19_code 77 = .ok (.bipush 15, 2) := by decide +kernel
theorem zd_Ref_standIn_79 : decode prog_13_method_19_code 79 = .ok (.iand, 1) := by decide +kernel
theorem zd_Ref_standIn_80 : decode prog_13_method_19_code 80 = .ok (.istore 10, 2) := by decide +kernel
theorem zd_Ref_standIn_82 : decode prog_13_method_19_code 82 = .ok (.iload 9, 2) := by decide +kernel
theorem zd_Ref_standIn_84 : decode prog_13_method_19_code 84 = .ok (.aload_n 0, 1) := by decide +kernel
theorem zd_Ref_standIn_85 : decode prog_13_method_19_code 85 = .ok (.getfield 76, 3) := by decide +kernel
theorem zd_Ref_standIn_88 : decode prog_13_method_19_code 88 = .ok (.if_icmp .ge 101, 3) := by decide +kernel
theorem zd_Ref_standIn_91 : decode prog_13_method_19_code 91 = .ok (.iload 10, 2) := by decide +kernel
theorem zd_Ref_standIn_93 : decode prog_13_method_19_code 93 = .ok (.aload_n 0, 1) := by decide +kernel
theorem zd_Ref_standIn_94 : decode prog_13_method_19_code 94 = .ok (.getfield 76, 3) := by decide +kernel
theorem zd_Ref_standIn_97 : decode prog_13_method_19_code 97 = .ok (.if_icmp .ge 92, 3) := by decide +kernel
theorem zd_Ref_standIn_100 : decode prog_13_method_19_code 100 = .ok (.aload_n 0, 1) := by decide +kernel
theorem zd_Ref_standIn_101 : decode prog_13_method_19_code 101 = .ok (.iload 5, 2) := by decide +kernel
theorem zd_Ref_standIn_103 : decode prog_13_method_19_code 103 = .ok (.iload_n 2, 1) := by decide +kernel
theorem zd_Ref_standIn_104 : decode prog_13_method_19_code 104 = .ok (.iload 9, 2) := by decide +kernel
theorem zd_Ref_standIn_106 : decode prog_13_method_19_code 106 = .ok (.iload 10, 2) := by decide +kernel
theorem zd_Ref_standIn_108 : decode prog_13_method_19_code 108 = .ok (.invokevirtual 121, 3) := by decide +kernel
theorem zd_Ref_standIn_111 : decode prog_13_method_19_code 111 = .ok (.ifCond .ne 6, 3) := by decide +kernel
theorem zd_Ref_standIn_114 : decode prog_13_method_19_code 114 = .ok (.goto 75, 3) := by decide +kernel
theorem zd_Ref_standIn_117 : decode prog_13_method_19_code 117 = .ok (.aload_n 0, 1) := by decide +kernel
theorem zd_Ref_standIn_118 : decode prog_13_method_19_code 118 = .ok (.iload_n 2, 1) := by decide +kernel
theorem zd_Ref_standIn_119 : decode prog_13_method_19_code 119 = .ok (.iload 9, 2) := by decide +kernel
theorem zd_Ref_standIn_121 : decode prog_13_method_19_code 121 = .ok (.iload 10, 2) := by decide +kernel
theorem zd_Ref_standIn_123 : decode prog_13_method_19_code 123 = .ok (.invokevirtual 125, 3) := by decide +kernel
theorem zd_Ref_standIn_126 : decode prog_13_method_19_code 126 = .ok (.istore 11, 2) := by decide +kernel
theorem zd_Ref_standIn_128 : decode prog_13_method_19_code 128 = .ok (.aload_n 0, 1) := by decide +kernel
theorem zd_Ref_standIn_129 : decode prog_13_method_19_code 129 = .ok (.iload 5, 2) := by decide +kernel
theorem zd_Ref_standIn_131 : decode prog_13_method_19_code 131 = .ok (.iload_n 2, 1) := by decide +kernel
theorem zd_Ref_standIn_132 : decode prog_13_method_19_code 132 = .ok (.iload 11, 2) := by decide +kernel
theorem zd_Ref_standIn_134 : decode prog_13_method_19_code 134 = .ok (.invokevirtual 129, 3) := by decide +kernel
theorem zd_Ref_standIn_137 : decode prog_13_method_19_code 137 = .ok (.istore 12, 2) := by decide +kernel
theorem zd_Ref_standIn_139 : decode prog_13_method_19_code 139 = .ok (.aload_n 0, 1) := by decide +kernel
theorem zd_Ref_standIn_140 : decode prog_13_method_19_code 140 = .ok (.iload 12, 2) := by decide +kernel
theorem zd_Ref_standIn_142 : decode prog_13_method_19_code 142 = .ok (.iload 6, 2) := by decide +kernel
theorem zd_Ref_standIn_144 : decode prog_13_method_19_code 144 = .ok (.iand, 1) := by decide +kernel
theorem zd_Ref_standIn_145 : decode prog_13_method_19_code 145 = .ok (.iload 7, 2) := by decide +kernel
theorem zd_Ref_standIn_147 : decode prog_13_method_19_code 147 = .ok (.iload 12, 2) := by decide +kernel
theorem zd_Ref_standIn_149 : decode prog_13_method_19_code 149 = .ok (.iconst (-1), 1) := by decide +kernel
theorem zd_Ref_standIn_150 : decode prog_13_method_19_code 150 = .ok (.ixor, 1) := by decide +kernel
theorem zd_Ref_standIn_151 : decode prog_13_method_19_code 151 = .ok (.iand, 1) := by decide +kernel
theorem zd_Ref_standIn_152 : decode prog_13_method_19_code 152 = .ok (.ior, 1) := by decide +kernel
theorem zd_Ref_standIn_153 : decode prog_13_method_19_code 153 = .ok (.iconst (-1), 1) := by decide +kernel
theorem zd_Ref_standIn_154 : decode prog_13_method_19_code 154 = .ok (.invokevirtual 98, 3) := by decide +kernel
theorem zd_Ref_standIn_157 : decode prog_13_method_19_code 157 = .ok (.istore 13, 2) := by decide +kernel
theorem zd_Ref_standIn_159 : decode prog_13_method_19_code 159 = .ok (.aload_n 0, 1) := by decide +kernel
theorem zd_Ref_standIn_160 : decode prog_13_method_19_code 160 = .ok (.iload 5, 2) := by decide +kernel
theorem zd_Ref_standIn_162 : decode prog_13_method_19_code 162 = .ok (.iconst (-1), 1) := by decide +kernel
theorem zd_Ref_standIn_163 : decode prog_13_method_19_code 163 = .ok (.invokevirtual 98, 3) := by decide +kernel
theorem zd_Ref_standIn_166 : decode prog_13_method_19_code 166 = .ok (.iload 13, 2) := by decide +kernel
theorem zd_Ref_standIn_168 : decode prog_13_method_19_code 168 = .ok (.isub, 1) := by decide +kernel
theorem zd_Ref_standIn_169 : decode prog_13_method_19_code 169 = .ok (.istore 14, 2) := by decide +kernel
theorem zd_Ref_standIn_171 : decode prog_13_method_19_code 171 = .ok (.aload_n 0, 1) := by decide +kernel
theorem zd_Ref_standIn_172 : decode prog_13_method_19_code 172 = .ok (.iload 11, 2) := by decide +kernel
theorem zd_Ref_standIn_174 : decode prog_13_method_19_code 174 = .ok (.iconst 0, 1) := by decide +kernel
theorem zd_Ref_standIn_175 : decode prog_13_method_19_code 175 = .ok (.iload 13, 2) := by decide +kernel
theorem zd_Ref_standIn_177 : decode prog_13_method_19_code 177 = .ok (.invokevirtual 142, 3) := by decide +kernel
theorem zd_Ref_standIn_180 : decode prog_13_method_19_code 180 = .ok (.aload_n 0, 1) := by decide +kernel
theorem zd_Ref_standIn_181 : decode prog_13_method_19_code 181 = .ok (.iload 11, 2) := by decide +kernel
theorem zd_Ref_standIn_183 : decode prog_13_method_19_code 183 = .ok (.iconst 1, 1) := by decide +kernel
theorem zd_Ref_standIn_184 : decode prog_13_method_19_code 184 = .ok (.iload 14, 2) := by decide +kernel
theorem zd_Ref_standIn_186 : decode prog_13_method_19_code 186 = .ok (.invokevirtual 142, 3) := by decide +kernel
theorem zd_Ref_standIn_189 : decode prog_13_method_19_code 189 = .ok (.iinc 8 1, 3) := by decide +kernel
theorem zd_Ref_standIn_192 : decode prog_13_method_19_code 192 = .ok (.goto (-131), 3) := by decide +kernel
theorem zd_Ref_standIn_195 : decode prog_13_method_19_code 195 = .ok (.aload_n 0, 1) := by decide +kernel
theorem zd_Ref_standIn_196 : decode prog_13_method_19_code 196 = .ok (.getfield 139, 3) := by decide +kernel
theorem zd_Ref_standIn_199 : decode prog_13_method_19_code 199 = .ok (.aload_n 0, 1) := by decide +kernel
theorem zd_Ref_standIn_200 : decode prog_13_method_19_code 200 = .ok (.iload 6, 2) := by decide +kernel
theorem zd_Ref_standIn_202 : decode prog_13_method_19_code 202 = .ok (.iconst (-1), 1) := by decide +kernel
theorem zd_Ref_standIn_203 : decode prog_13_method_19_code 203 = .ok (.invokevirtual 98, 3) := by decide +kernel
theorem zd_Ref_standIn_206 : decode prog_13_method_19_code 206 = .ok (.if_icmp .le 21, 3) := by decide +kernel
theorem zd_Ref_standIn_209 : decode prog_13_method_19_code 209 = .ok (.aload_n 0, 1) := by decide +kernel
theorem zd_Ref_standIn_210 : decode prog_13_method_19_code 210 = .ok (.getfield 139, 3) := by decide +kernel
theorem zd_Ref_standIn_213 : decode prog_13_method_19_code 213 = .ok (.aload_n 0, 1) := by decide +kernel
theorem zd_Ref_standIn_214 : decode prog_13_method_19_code 214 = .ok (.iload 7, 2) := by decide +kernel
theorem zd_Ref_standIn_216 : decode prog_13_method_19_code 216 = .ok (.iconst (-1), 1) := by decide +kernel
theorem zd_Ref_standIn_217 : decode prog_13_method_19_code 217 = .ok (.invokevirtual 98, 3) := by decide +kernel
theorem zd_Ref_standIn_220 : decode prog_13_method_19_code 220 = .ok (.if_icmp .le 7, 3) := by decide +kernel
theorem zd_Ref_standIn_223 : decode prog_13_method_19_code 223 = .ok (.iconst 1, 1) := by decide +kernel
theorem zd_Ref_standIn_224 : decode prog_13_method_19_code 224 = .ok (.goto 4, 3) := by decide +kernel
theorem zd_Ref_standIn_227 : decode prog_13_method_19_code 227 = .ok (.iconst 0, 1) := by decide +kernel
theorem zd_Ref_standIn_228 : decode prog_13_method_19_code 228 = .ok (.ireturn, 1) := by decide +kernel
def zm_Ref_consider : zg_M := (⟨"SurrogateTreeModel", "consider", "(III)V"⟩, prog_13_method_20_code, 5, none)
theorem zd_Ref_consider_0 : decode prog_13_method_20_code 0 = .ok (.iload_n 3, 1) := by decide +kernel
theorem zd_Ref_consider_1 : decode prog_13_method_20_code 1 = .ok (.aload_n 0, 1) := by decide +kernel
theorem zd_Ref_consider_2 : decode prog_13_method_20_code 2 = .ok (.getfield 139, 3) := by decide +kernel
theorem zd_Ref_consider_5 : decode prog_13_method_20_code 5 = .ok (.if_icmp .gt 35, 3) := by decide +kernel
theorem zd_Ref_consider_8 : decode prog_13_method_20_code 8 = .ok (.iload_n 3, 1) := by decide +kernel
theorem zd_Ref_consider_9 : decode prog_13_method_20_code 9 = .ok (.aload_n 0, 1) := by decide +kernel
theorem zd_Ref_consider_10 : decode prog_13_method_20_code 10 = .ok (.getfield 139, 3) := by decide +kernel
theorem zd_Ref_consider_13 : decode prog_13_method_20_code 13 = .ok (.if_icmp .ne 31, 3) := by decide +kernel
theorem zd_Ref_consider_16 : decode prog_13_method_20_code 16 = .ok (.iload_n 1, 1) := by decide +kernel
theorem zd_Ref_consider_17 : decode prog_13_method_20_code 17 = .ok (.aload_n 0, 1) := by decide +kernel
theorem zd_Ref_consider_18 : decode prog_13_method_20_code 18 = .ok (.getfield 146, 3) := by decide +kernel
theorem zd_Ref_consider_21 : decode prog_13_method_20_code 21 = .ok (.if_icmp .lt 19, 3) := by decide +kernel
theorem zd_Ref_consider_24 : decode prog_13_method_20_code 24 = .ok (.iload_n 1, 1) := by decide +kernel
theorem zd_Ref_consider_25 : decode prog_13_method_20_code 25 = .ok (.aload_n 0, 1) := by decide +kernel
theorem zd_Ref_consider_26 : decode prog_13_method_20_code 26 = .ok (.getfield 146, 3) := by decide +kernel
theorem zd_Ref_consider_29 : decode prog_13_method_20_code 29 = .ok (.if_icmp .ne 15, 3) := by decide +kernel
theorem zd_Ref_consider_32 : decode prog_13_method_20_code 32 = .ok (.iload_n 2, 1) := by decide +kernel
theorem zd_Ref_consider_33 : decode prog_13_method_20_code 33 = .ok (.aload_n 0, 1) := by decide +kernel
theorem zd_Ref_consider_34 : decode prog_13_method_20_code 34 = .ok (.getfield 149, 3) := by decide +kernel
theorem zd_Ref_consider_37 : decode prog_13_method_20_code 37 = .ok (.if_icmp .ge 7, 3) := by decide +kernel
theorem zd_Ref_consider_40 : decode prog_13_method_20_code 40 = .ok (.iconst 1, 1) := by decide +kernel
theorem zd_Ref_consider_41 : decode prog_13_method_20_code 41 = .ok (.goto 4, 3) := by decide +kernel
theorem zd_Ref_consider_44 : decode prog_13_method_20_code 44 = .ok (.iconst 0, 1) := by decide +kernel
theorem zd_Ref_consider_45 : decode prog_13_method_20_code 45 = .ok (.istore 4, 2) := by decide +kernel
theorem zd_Ref_consider_47 : decode prog_13_method_20_code 47 = .ok (.iload 4, 2) := by decide +kernel
theorem zd_Ref_consider_49 : decode prog_13_method_20_code 49 = .ok (.ifCond .eq 18, 3) := by decide +kernel
theorem zd_Ref_consider_52 : decode prog_13_method_20_code 52 = .ok (.aload_n 0, 1) := by decide +kernel
theorem zd_Ref_consider_53 : decode prog_13_method_20_code 53 = .ok (.iload_n 3, 1) := by decide +kernel
theorem zd_Ref_consider_54 : decode prog_13_method_20_code 54 = .ok (.putfield 139, 3) := by decide +kernel
theorem zd_Ref_consider_57 : decode prog_13_method_20_code 57 = .ok (.aload_n 0, 1) := by decide +kernel
theorem zd_Ref_consider_58 : decode prog_13_method_20_code 58 = .ok (.iload_n 1, 1) := by decide +kernel
theorem zd_Ref_consider_59 : decode prog_13_method_20_code 59 = .ok (.putfield 146, 3) := by decide +kernel
theorem zd_Ref_consider_62 : decode prog_13_method_20_code 62 = .ok (.aload_n 0, 1) := by decide +kernel
theorem zd_Ref_consider_63 : decode prog_13_method_20_code 63 = .ok (.iload_n 2, 1) := by decide +kernel
theorem zd_Ref_consider_64 : decode prog_13_method_20_code 64 = .ok (.putfield 149, 3) := by decide +kernel
theorem zd_Ref_consider_67 : decode prog_13_method_20_code 67 = .ok (.return_, 1) := by decide +kernel
def zm_Ref_kind : zg_M := (⟨"SurrogateTreeModel", "kind", "(I)I"⟩, prog_13_method_29_code, 3, (some .int))
theorem zd_Ref_kind_0 : decode prog_13_method_29_code 0 = .ok (.iload_n 1, 1) := by decide +kernel
theorem zd_Ref_kind_1 : decode prog_13_method_29_code 1 = .ok (.iconst 1, 1) := by decide +kernel
theorem zd_Ref_kind_2 : decode prog_13_method_29_code 2 = .ok (.if_icmp .lt 18, 3) := by decide +kernel
theorem zd_Ref_kind_5 : decode prog_13_method_29_code 5 = .ok (.iload_n 1, 1) := by decide +kernel
theorem zd_Ref_kind_6 : decode prog_13_method_29_code 6 = .ok (.bipush 31, 2) := by decide +kernel
theorem zd_Ref_kind_8 : decode prog_13_method_29_code 8 = .ok (.if_icmp .gt 12, 3) := by decide +kernel
theorem zd_Ref_kind_11 : decode prog_13_method_29_code 11 = .ok (.aload_n 0, 1) := by decide +kernel
theorem zd_Ref_kind_12 : decode prog_13_method_29_code 12 = .ok (.getfield 29, 3) := by decide +kernel
theorem zd_Ref_kind_15 : decode prog_13_method_29_code 15 = .ok (.iload_n 1, 1) := by decide +kernel
theorem zd_Ref_kind_16 : decode prog_13_method_29_code 16 = .ok (.iaload, 1) := by decide +kernel
theorem zd_Ref_kind_17 : decode prog_13_method_29_code 17 = .ok (.ifCond .ne 5, 3) := by decide +kernel
theorem zd_Ref_kind_20 : decode prog_13_method_29_code 20 = .ok (.iconst (-1), 1) := by decide +kernel
theorem zd_Ref_kind_21 : decode prog_13_method_29_code 21 = .ok (.ireturn, 1) := by decide +kernel
theorem zd_Ref_kind_22 : decode prog_13_method_29_code 22 = .ok (.aload_n 0, 1) := by decide +kernel
theorem zd_Ref_kind_23 : decode prog_13_method_29_code 23 = .ok (.getfield 79, 3) := by decide +kernel
theorem zd_Ref_kind_26 : decode prog_13_method_29_code 26 = .ok (.ifCond .ne 12, 3) := by decide +kernel
theorem zd_Ref_kind_29 : decode prog_13_method_29_code 29 = .ok (.aload_n 0, 1) := by decide +kernel
theorem zd_Ref_kind_30 : decode prog_13_method_29_code 30 = .ok (.getfield 29, 3) := by decide +kernel
theorem zd_Ref_kind_33 : decode prog_13_method_29_code 33 = .ok (.iload_n 1, 1) := by decide +kernel
theorem zd_Ref_kind_34 : decode prog_13_method_29_code 34 = .ok (.iaload, 1) := by decide +kernel
theorem zd_Ref_kind_35 : decode prog_13_method_29_code 35 = .ok (.iconst 1, 1) := by decide +kernel
theorem zd_Ref_kind_36 : decode prog_13_method_29_code 36 = .ok (.isub, 1) := by decide +kernel
theorem zd_Ref_kind_37 : decode prog_13_method_29_code 37 = .ok (.ireturn, 1) := by decide +kernel
theorem zd_Ref_kind_38 : decode prog_13_method_29_code 38 = .ok (.aload_n 0, 1) := by decide +kernel
theorem zd_Ref_kind_39 : decode prog_13_method_29_code 39 = .ok (.invokevirtual 183, 3) := by decide +kernel
theorem zd_Ref_kind_42 : decode prog_13_method_29_code 42 = .ok (.aload_n 0, 1) := by decide +kernel
theorem zd_Ref_kind_43 : decode prog_13_method_29_code 43 = .ok (.aload_n 0, 1) := by decide +kernel
theorem zd_Ref_kind_44 : decode prog_13_method_29_code 44 = .ok (.getfield 186, 3) := by decide +kernel
theorem zd_Ref_kind_47 : decode prog_13_method_29_code 47 = .ok (.aload_n 0, 1) := by decide +kernel
theorem zd_Ref_kind_48 : decode prog_13_method_29_code 48 = .ok (.getfield 189, 3) := by decide +kernel
theorem zd_Ref_kind_51 : decode prog_13_method_29_code 51 = .ok (.invokevirtual 192, 3) := by decide +kernel
theorem zd_Ref_kind_54 : decode prog_13_method_29_code 54 = .ok (.pop, 1) := by decide +kernel
theorem zd_Ref_kind_55 : decode prog_13_method_29_code 55 = .ok (.iload_n 1, 1) := by decide +kernel
theorem zd_Ref_kind_56 : decode prog_13_method_29_code 56 = .ok (.iconst 1, 1) := by decide +kernel
theorem zd_Ref_kind_57 : decode prog_13_method_29_code 57 = .ok (.ishr, 1) := by decide +kernel
theorem zd_Ref_kind_58 : decode prog_13_method_29_code 58 = .ok (.istore_n 2, 1) := by decide +kernel
theorem zd_Ref_kind_59 : decode prog_13_method_29_code 59 = .ok (.iload_n 2, 1) := by decide +kernel
theorem zd_Ref_kind_60 : decode prog_13_method_29_code 60 = .ok (.ifCond .le 21, 3) := by decide +kernel
theorem zd_Ref_kind_63 : decode prog_13_method_29_code 63 = .ok (.aload_n 0, 1) := by decide +kernel
theorem zd_Ref_kind_64 : decode prog_13_method_29_code 64 = .ok (.getfield 63, 3) := by decide +kernel
theorem zd_Ref_kind_67 : decode prog_13_method_29_code 67 = .ok (.iload_n 2, 1) := by decide +kernel
theorem zd_Ref_kind_68 : decode prog_13_method_29_code 68 = .ok (.baload, 1) := by decide +kernel
theorem zd_Ref_kind_69 : decode prog_13_method_29_code 69 = .ok (.ifCond .ne 5, 3) := by decide +kernel
theorem zd_Ref_kind_72 : decode prog_13_method_29_code 72 = .ok (.iconst (-1), 1) := by decide +kernel
theorem zd_Ref_kind_73 : decode prog_13_method_29_code 73 = .ok (.ireturn, 1) := by decide +kernel
theorem zd_Ref_kind_74 : decode prog_13_method_29_code 74 = .ok (.iload_n 2, 1) := by decide +kernel
theorem zd_Ref_kind_75 : decode prog_13_method_29_code 75 = .ok (.iconst 1, 1) := by decide +kernel
theorem zd_Ref_kind_76 : decode prog_13_method_29_code 76 = .ok (.ishr, 1) := by decide +kernel
theorem zd_Ref_kind_77 : decode prog_13_method_29_code 77 = .ok (.istore_n 2, 1) := by decide +kernel
theorem zd_Ref_kind_78 : decode prog_13_method_29_code 78 = .ok (.goto (-19), 3) := by decide +kernel
theorem zd_Ref_kind_81 : decode prog_13_method_29_code 81 = .ok (.aload_n 0, 1) := by decide +kernel
theorem zd_Ref_kind_82 : decode prog_13_method_29_code 82 = .ok (.getfield 63, 3) := by decide +kernel
theorem zd_Ref_kind_85 : decode prog_13_method_29_code 85 = .ok (.iload_n 1, 1) := by decide +kernel
theorem zd_Ref_kind_86 : decode prog_13_method_29_code 86 = .ok (.baload, 1) := by decide +kernel
theorem zd_Ref_kind_87 : decode prog_13_method_29_code 87 = .ok (.ifCond .eq 7, 3) := by decide +kernel
theorem zd_Ref_kind_90 : decode prog_13_method_29_code 90 = .ok (.iconst 2, 1) := by decide +kernel
theorem zd_Ref_kind_91 : decode prog_13_method_29_code 91 = .ok (.goto 4, 3) := by decide +kernel
theorem zd_Ref_kind_94 : decode prog_13_method_29_code 94 = .ok (.iconst 1, 1) := by decide +kernel
theorem zd_Ref_kind_95 : decode prog_13_method_29_code 95 = .ok (.ireturn, 1) := by decide +kernel
def zm_Ref_findErrors : zg_M := (⟨"SurrogateTreeModel", "findErrors", "()V"⟩, prog_13_method_27_code, 2, none)
theorem zd_Ref_findErrors_0 : decode prog_13_method_27_code 0 = .ok (.iconst 1, 1) := by decide +kernel
theorem zd_Ref_findErrors_1 : decode prog_13_method_27_code 1 = .ok (.istore_n 1, 1) := by decide +kernel
theorem zd_Ref_findErrors_2 : decode prog_13_method_27_code 2 = .ok (.iload_n 1, 1) := by decide +kernel
theorem zd_Ref_findErrors_3 : decode prog_13_method_27_code 3 = .ok (.bipush 32, 2) := by decide +kernel
theorem zd_Ref_findErrors_5 : decode prog_13_method_27_code 5 = .ok (.if_icmp .ge 38, 3) := by decide +kernel
theorem zd_Ref_findErrors_8 : decode prog_13_method_27_code 8 = .ok (.aload_n 0, 1) := by decide +kernel
theorem zd_Ref_findErrors_9 : decode prog_13_method_27_code 9 = .ok (.getfield 53, 3) := by decide +kernel
theorem zd_Ref_findErrors_12 : decode prog_13_method_27_code 12 = .ok (.iload_n 1, 1) := by decide +kernel
theorem zd_Ref_findErrors_13 : decode prog_13_method_27_code 13 = .ok (.aload_n 0, 1) := by decide +kernel
theorem zd_Ref_findErrors_14 : decode prog_13_method_27_code 14 = .ok (.getfield 29, 3) := by decide +kernel
theorem zd_Ref_findErrors_17 : decode prog_13_method_27_code 17 = .ok (.iload_n 1, 1) := by decide +kernel
theorem zd_Ref_findErrors_18 : decode prog_13_method_27_code 18 = .ok (.iaload, 1) := by decide +kernel
theorem zd_Ref_findErrors_19 : decode prog_13_method_27_code 19 = .ok (.ifCond .le 16, 3) := by decide +kernel
theorem zd_Ref_findErrors_22 : decode prog_13_method_27_code 22 = .ok (.aload_n 0, 1) := by decide +kernel
theorem zd_Ref_findErrors_23 : decode prog_13_method_27_code 23 = .ok (.aload_n 0, 1) := by decide +kernel
theorem zd_Ref_findErrors_24 : decode prog_13_method_27_code 24 = .ok (.getfield 32, 3) := by decide +kernel
theorem zd_Ref_findErrors_27 : decode prog_13_method_27_code 27 = .ok (.iload_n 1, 1) := by decide +kernel
theorem zd_Ref_findErrors_28 : decode prog_13_method_27_code 28 = .ok (.iaload, 1) := by decide +kernel
theorem zd_Ref_findErrors_29 : decode prog_13_method_27_code 29 = .ok (.invokevirtual 180, 3) := by decide +kernel
theorem zd_Ref_findErrors_32 : decode prog_13_method_27_code 32 = .ok (.goto 4, 3) := by decide +kernel
theorem zd_Ref_findErrors_35 : decode prog_13_method_27_code 35 = .ok (.iconst 0, 1) := by decide +kernel
theorem zd_Ref_findErrors_36 : decode prog_13_method_27_code 36 = .ok (.iastore, 1) := by decide +kernel
theorem zd_Ref_findErrors_37 : decode prog_13_method_27_code 37 = .ok (.iinc 1 1, 3) := by decide +kernel
theorem zd_Ref_findErrors_40 : decode prog_13_method_27_code 40 = .ok (.goto (-38), 3) := by decide +kernel
theorem zd_Ref_findErrors_43 : decode prog_13_method_27_code 43 = .ok (.return_, 1) := by decide +kernel
def zm_Ref_errorIn : zg_M := (⟨"SurrogateTreeModel", "errorIn", "(I)I"⟩, prog_13_method_15_code, 2, (some .int))
theorem zd_Ref_errorIn_0 : decode prog_13_method_15_code 0 = .ok (.aload_n 0, 1) := by decide +kernel
theorem zd_Ref_errorIn_1 : decode prog_13_method_15_code 1 = .ok (.iload_n 1, 1) := by decide +kernel
theorem zd_Ref_errorIn_2 : decode prog_13_method_15_code 2 = .ok (.iconst (-1), 1) := by decide +kernel
theorem zd_Ref_errorIn_3 : decode prog_13_method_15_code 3 = .ok (.invokevirtual 98, 3) := by decide +kernel
theorem zd_Ref_errorIn_6 : decode prog_13_method_15_code 6 = .ok (.aload_n 0, 1) := by decide +kernel
theorem zd_Ref_errorIn_7 : decode prog_13_method_15_code 7 = .ok (.iload_n 1, 1) := by decide +kernel
theorem zd_Ref_errorIn_8 : decode prog_13_method_15_code 8 = .ok (.aload_n 0, 1) := by decide +kernel
theorem zd_Ref_errorIn_9 : decode prog_13_method_15_code 9 = .ok (.iload_n 1, 1) := by decide +kernel
theorem zd_Ref_errorIn_10 : decode prog_13_method_15_code 10 = .ok (.invokevirtual 102, 3) := by decide +kernel
theorem zd_Ref_errorIn_13 : decode prog_13_method_15_code 13 = .ok (.invokevirtual 98, 3) := by decide +kernel
theorem zd_Ref_errorIn_16 : decode prog_13_method_15_code 16 = .ok (.isub, 1) := by decide +kernel
theorem zd_Ref_errorIn_17 : decode prog_13_method_15_code 17 = .ok (.ireturn, 1) := by decide +kernel
def zm_Ref_shape : zg_M := (⟨"SurrogateTreeModel", "shape", "(II)I"⟩, prog_13_method_28_code, 6, (some .int))
theorem zd_Ref_shape_0 : decode prog_13_method_28_code 0 = .ok (.bipush 31, 2) := by decide +kernel
theorem zd_Ref_shape_2 : decode prog_13_method_28_code 2 = .ok (.istore_n 3, 1) := by decide +kernel
theorem zd_Ref_shape_3 : decode prog_13_method_28_code 3 = .ok (.iload_n 3, 1) := by decide +kernel
theorem zd_Ref_shape_4 : decode prog_13_method_28_code 4 = .ok (.ifCond .le 147, 3) := by decide +kernel
theorem zd_Ref_shape_7 : decode prog_13_method_28_code 7 = .ok (.aload_n 0, 1) := by decide +kernel
theorem zd_Ref_shape_8 : decode prog_13_method_28_code 8 = .ok (.getfield 53, 3) := by decide +kernel
theorem zd_Ref_shape_11 : decode prog_13_method_28_code 11 = .ok (.iload_n 3, 1) := by decide +kernel
theorem zd_Ref_shape_12 : decode prog_13_method_28_code 12 = .ok (.iaload, 1) := by decide +kernel
theorem zd_Ref_shape_13 : decode prog_13_method_28_code 13 = .ok (.i2l, 1) := by decide +kernel
theorem zd_Ref_shape_14 : decode prog_13_method_28_code 14 = .ok (.iload_n 2, 1) := by decide +kernel
theorem zd_Ref_shape_15 : decode prog_13_method_28_code 15 = .ok (.i2l, 1) := by decide +kernel
theorem zd_Ref_shape_16 : decode prog_13_method_28_code 16 = .ok (.lmul, 1) := by decide +kernel
theorem zd_Ref_shape_17 : decode prog_13_method_28_code 17 = .ok (.iload_n 1, 1) := by decide +kernel
theorem zd_Ref_shape_18 : decode prog_13_method_28_code 18 = .ok (.i2l, 1) := by decide +kernel
theorem zd_Ref_shape_19 : decode prog_13_method_28_code 19 = .ok (.ladd, 1) := by decide +kernel
theorem zd_Ref_shape_20 : decode prog_13_method_28_code 20 = .ok (.lstore 4, 2) := by decide +kernel
theorem zd_Ref_shape_22 : decode prog_13_method_28_code 22 = .ok (.aload_n 0, 1) := by decide +kernel
theorem zd_Ref_shape_23 : decode prog_13_method_28_code 23 = .ok (.getfield 63, 3) := by decide +kernel
theorem zd_Ref_shape_26 : decode prog_13_method_28_code 26 = .ok (.iload_n 3, 1) := by decide +kernel
theorem zd_Ref_shape_27 : decode prog_13_method_28_code 27 = .ok (.aload_n 0, 1) := by decide +kernel
theorem zd_Ref_shape_28 : decode prog_13_method_28_code 28 = .ok (.getfield 29, 3) := by decide +kernel
theorem zd_Ref_shape_31 : decode prog_13_method_28_code 31 = .ok (.iload_n 3, 1) := by decide +kernel
theorem zd_Ref_shape_32 : decode prog_13_method_28_code 32 = .ok (.iaload, 1) := by decide +kernel
theorem zd_Ref_shape_33 : decode prog_13_method_28_code 33 = .ok (.iconst 3, 1) := by decide +kernel
theorem zd_Ref_shape_34 : decode prog_13_method_28_code 34 = .ok (.if_icmp .ne 32, 3) := by decide +kernel
theorem zd_Ref_shape_37 : decode prog_13_method_28_code 37 = .ok (.aload_n 0, 1) := by decide +kernel
theorem zd_Ref_shape_38 : decode prog_13_method_28_code 38 = .ok (.getfield 56, 3) := by decide +kernel
theorem zd_Ref_shape_41 : decode prog_13_method_28_code 41 = .ok (.iconst 2, 1) := by decide +kernel
theorem zd_Ref_shape_42 : decode prog_13_method_28_code 42 = .ok (.iload_n 3, 1) := by decide +kernel
theorem zd_Ref_shape_43 : decode prog_13_method_28_code 43 = .ok (.imul, 1) := by decide +kernel
theorem zd_Ref_shape_44 : decode prog_13_method_28_code 44 = .ok (.laload, 1) := by decide +kernel
theorem zd_Ref_shape_45 : decode prog_13_method_28_code 45 = .ok (.aload_n 0, 1) := by decide +kernel
theorem zd_Ref_shape_46 : decode prog_13_method_28_code 46 = .ok (.getfield 56, 3) := by decide +kernel
theorem zd_Ref_shape_49 : decode prog_13_method_28_code 49 = .ok (.iconst 2, 1) := by decide +kernel
theorem zd_Ref_shape_50 : decode prog_13_method_28_code 50 = .ok (.iload_n 3, 1) := by decide +kernel
theorem zd_Ref_shape_51 : decode prog_13_method_28_code 51 = .ok (.imul, 1) := by decide +kernel
theorem zd_Ref_shape_52 : decode prog_13_method_28_code 52 = .ok (.iconst 1, 1) := by decide +kernel
theorem zd_Ref_shape_53 : decode prog_13_method_28_code 53 = .ok (.iadd, 1) := by decide +kernel
theorem zd_Ref_shape_54 : decode prog_13_method_28_code 54 = .ok (.laload, 1) := by decide +kernel
theorem zd_Ref_shape_55 : decode prog_13_method_28_code 55 = .ok (.ladd, 1) := by decide +kernel
theorem zd_Ref_shape_56 : decode prog_13_method_28_code 56 = .ok (.lload 4, 2) := by decide +kernel
theorem zd_Ref_shape_58 : decode prog_13_method_28_code 58 = .ok (.lcmp, 1) := by decide +kernel
theorem zd_Ref_shape_59 : decode prog_13_method_28_code 59 = .ok (.ifCond .ge 7, 3) := by decide +kernel
theorem zd_Ref_shape_62 : decode prog_13_method_28_code 62 = .ok (.iconst 1, 1) := by decide +kernel
theorem zd_Ref_shape_63 : decode prog_13_method_28_code 63 = .ok (.goto 4, 3) := by decide +kernel
theorem zd_Ref_shape_66 : decode prog_13_method_28_code 66 = .ok (.iconst 0, 1) := by decide +kernel
theorem zd_Ref_shape_67 : decode prog_13_method_28_code 67 = .ok (.bastore, 1) := by decide +kernel
theorem zd_Ref_shape_68 : decode prog_13_method_28_code 68 = .ok (.aload_n 0, 1) := by decide +kernel
theorem zd_Ref_shape_69 : decode prog_13_method_28_code 69 = .ok (.getfield 56, 3) := by decide +kernel
theorem zd_Ref_shape_72 : decode prog_13_method_28_code 72 = .ok (.iload_n 3, 1) := by decide +kernel
theorem zd_Ref_shape_73 : decode prog_13_method_28_code 73 = .ok (.aload_n 0, 1) := by decide +kernel
theorem zd_Ref_shape_74 : decode prog_13_method_28_code 74 = .ok (.getfield 63, 3) := by decide +kernel
theorem zd_Ref_shape_77 : decode prog_13_method_28_code 77 = .ok (.iload_n 3, 1) := by decide +kernel
theorem zd_Ref_shape_78 : decode prog_13_method_28_code 78 = .ok (.baload, 1) := by decide +kernel
theorem zd_Ref_shape_79 : decode prog_13_method_28_code 79 = .ok (.ifCond .eq 25, 3) := by decide +kernel
theorem zd_Ref_shape_82 : decode prog_13_method_28_code 82 = .ok (.aload_n 0, 1) := by decide +kernel
theorem zd_Ref_shape_83 : decode prog_13_method_28_code 83 = .ok (.getfield 56, 3) := by decide +kernel
theorem zd_Ref_shape_86 : decode prog_13_method_28_code 86 = .ok (.iconst 2, 1) := by decide +kernel
theorem zd_Ref_shape_87 : decode prog_13_method_28_code 87 = .ok (.iload_n 3, 1) := by decide +kernel
theorem zd_Ref_shape_88 : decode prog_13_method_28_code 88 = .ok (.imul, 1) := by decide +kernel
theorem zd_Ref_shape_89 : decode prog_13_method_28_code 89 = .ok (.laload, 1) := by decide +kernel
theorem zd_Ref_shape_90 : decode prog_13_method_28_code 90 = .ok (.aload_n 0, 1) := by decide +kernel
theorem zd_Ref_shape_91 : decode prog_13_method_28_code 91 = .ok (.getfield 56, 3) := by decide +kernel
theorem zd_Ref_shape_94 : decode prog_13_method_28_code 94 = .ok (.iconst 2, 1) := by decide +kernel
theorem zd_Ref_shape_95 : decode prog_13_method_28_code 95 = .ok (.iload_n 3, 1) := by decide +kernel
theorem zd_Ref_shape_96 : decode prog_13_method_28_code 96 = .ok (.imul, 1) := by decide +kernel
theorem zd_Ref_shape_97 : decode prog_13_method_28_code 97 = .ok (.iconst 1, 1) := by decide +kernel
theorem zd_Ref_shape_98 : decode prog_13_method_28_code 98 = .ok (.iadd, 1) := by decide +kernel
theorem zd_Ref_shape_99 : decode prog_13_method_28_code 99 = .ok (.laload, 1) := by decide +kernel
theorem zd_Ref_shape_100 : decode prog_13_method_28_code 100 = .ok (.ladd, 1) := by decide +kernel
theorem zd_Ref_shape_101 : decode prog_13_method_28_code 101 = .ok (.goto 5, 3) := by decide +kernel
theorem zd_Ref_shape_104 : decode prog_13_method_28_code 104 = .ok (.lload 4, 2) := by decide +kernel
theorem zd_Ref_shape_106 : decode prog_13_method_28_code 106 = .ok (.lastore, 1) := by decide +kernel
theorem zd_Ref_shape_107 : decode prog_13_method_28_code 107 = .ok (.aload_n 0, 1) := by decide +kernel
theorem zd_Ref_shape_108 : decode prog_13_method_28_code 108 = .ok (.getfield 60, 3) := by decide +kernel
theorem zd_Ref_shape_111 : decode prog_13_method_28_code 111 = .ok (.iload_n 3, 1) := by decide +kernel
theorem zd_Ref_shape_112 : decode prog_13_method_28_code 112 = .ok (.aload_n 0, 1) := by decide +kernel
theorem zd_Ref_shape_113 : decode prog_13_method_28_code 113 = .ok (.getfield 63, 3) := by decide +kernel
theorem zd_Ref_shape_116 : decode prog_13_method_28_code 116 = .ok (.iload_n 3, 1) := by decide +kernel
theorem zd_Ref_shape_117 : decode prog_13_method_28_code 117 = .ok (.baload, 1) := by decide +kernel
theorem zd_Ref_shape_118 : decode prog_13_method_28_code 118 = .ok (.ifCond .eq 25, 3) := by decide +kernel
theorem zd_Ref_shape_121 : decode prog_13_method_28_code 121 = .ok (.aload_n 0, 1) := by decide +kernel
theorem zd_Ref_shape_122 : decode prog_13_method_28_code 122 = .ok (.getfield 60, 3) := by decide +kernel
theorem zd_Ref_shape_125 : decode prog_13_method_28_code 125 = .ok (.iconst 2, 1) := by decide +kernel
theorem zd_Ref_shape_126 : decode prog_13_method_28_code 126 = .ok (.iload_n 3, 1) := by decide +kernel
theorem zd_Ref_shape_127 : decode prog_13_method_28_code 127 = .ok (.imul, 1) := by decide +kernel
theorem zd_Ref_shape_128 : decode prog_13_method_28_code 128 = .ok (.iaload, 1) := by decide +kernel
theorem zd_Ref_shape_129 : decode prog_13_method_28_code 129 = .ok (.aload_n 0, 1) := by decide +kernel
theorem zd_Ref_shape_130 : decode prog_13_method_28_code 130 = .ok (.getfield 60, 3) := by decide +kernel
theorem zd_Ref_shape_133 : decode prog_13_method_28_code 133 = .ok (.iconst 2, 1) := by decide +kernel
theorem zd_Ref_shape_134 : decode prog_13_method_28_code 134 = .ok (.iload_n 3, 1) := by decide +kernel
theorem zd_Ref_shape_135 : decode prog_13_method_28_code 135 = .ok (.imul, 1) := by decide +kernel
theorem zd_Ref_shape_136 : decode prog_13_method_28_code 136 = .ok (.iconst 1, 1) := by decide +kernel
theorem zd_Ref_shape_137 : decode prog_13_method_28_code 137 = .ok (.iadd, 1) := by decide +kernel
theorem zd_Ref_shape_138 : decode prog_13_method_28_code 138 = .ok (.iaload, 1) := by decide +kernel
theorem zd_Ref_shape_139 : decode prog_13_method_28_code 139 = .ok (.iadd, 1) := by decide +kernel
theorem zd_Ref_shape_140 : decode prog_13_method_28_code 140 = .ok (.goto 4, 3) := by decide +kernel
theorem zd_Ref_shape_143 : decode prog_13_method_28_code 143 = .ok (.iconst 1, 1) := by decide +kernel
theorem zd_Ref_shape_144 : decode prog_13_method_28_code 144 = .ok (.iastore, 1) := by decide +kernel
theorem zd_Ref_shape_145 : decode prog_13_method_28_code 145 = .ok (.iinc 3 (-1), 3) := by decide +kernel
theorem zd_Ref_shape_148 : decode prog_13_method_28_code 148 = .ok (.goto (-145), 3) := by decide +kernel
theorem zd_Ref_shape_151 : decode prog_13_method_28_code 151 = .ok (.aload_n 0, 1) := by decide +kernel
theorem zd_Ref_shape_152 : decode prog_13_method_28_code 152 = .ok (.getfield 60, 3) := by decide +kernel
theorem zd_Ref_shape_155 : decode prog_13_method_28_code 155 = .ok (.iconst 1, 1) := by decide +kernel
theorem zd_Ref_shape_156 : decode prog_13_method_28_code 156 = .ok (.iaload, 1) := by decide +kernel
theorem zd_Ref_shape_157 : decode prog_13_method_28_code 157 = .ok (.ireturn, 1) := by decide +kernel
def zm_Ref_rule : zg_M := (⟨"SurrogateTreeModel", "rule", "(II)I"⟩, prog_13_method_30_code, 3, (some .int))
theorem zd_Ref_rule_0 : decode prog_13_method_30_code 0 = .ok (.aload_n 0, 1) := by decide +kernel
theorem zd_Ref_rule_1 : decode prog_13_method_30_code 1 = .ok (.iload_n 1, 1) := by decide +kernel
theorem zd_Ref_rule_2 : decode prog_13_method_30_code 2 = .ok (.invokevirtual 195, 3) := by decide +kernel
theorem zd_Ref_rule_5 : decode prog_13_method_30_code 5 = .ok (.iconst 2, 1) := by decide +kernel
theorem zd_Ref_rule_6 : decode prog_13_method_30_code 6 = .ok (.if_icmp .ne 12, 3) := by decide +kernel
theorem zd_Ref_rule_9 : decode prog_13_method_30_code 9 = .ok (.iload_n 2, 1) := by decide +kernel
theorem zd_Ref_rule_10 : decode prog_13_method_30_code 10 = .ok (.ifCond .lt 8, 3) := by decide +kernel
theorem zd_Ref_rule_13 : decode prog_13_method_30_code 13 = .ok (.iload_n 2, 1) := by decide +kernel
theorem zd_Ref_rule_14 : decode prog_13_method_30_code 14 = .ok (.iconst 2, 1) := by decide +kernel
theorem zd_Ref_rule_15 : decode prog_13_method_30_code 15 = .ok (.if_icmp .le 5, 3) := by decide +kernel
theorem zd_Ref_rule_18 : decode prog_13_method_30_code 18 = .ok (.iconst (-1), 1) := by decide +kernel
theorem zd_Ref_rule_19 : decode prog_13_method_30_code 19 = .ok (.ireturn, 1) := by decide +kernel
theorem zd_Ref_rule_20 : decode prog_13_method_30_code 20 = .ok (.iload_n 2, 1) := by decide +kernel
theorem zd_Ref_rule_21 : decode prog_13_method_30_code 21 = .ok (.ifCond .ne 10, 3) := by decide +kernel
theorem zd_Ref_rule_24 : decode prog_13_method_30_code 24 = .ok (.aload_n 0, 1) := by decide +kernel
theorem zd_Ref_rule_25 : decode prog_13_method_30_code 25 = .ok (.getfield 35, 3) := by decide +kernel
theorem zd_Ref_rule_28 : decode prog_13_method_30_code 28 = .ok (.iload_n 1, 1) := by decide +kernel
theorem zd_Ref_rule_29 : decode prog_13_method_30_code 29 = .ok (.iaload, 1) := by decide +kernel
theorem zd_Ref_rule_30 : decode prog_13_method_30_code 30 = .ok (.ireturn, 1) := by decide +kernel
theorem zd_Ref_rule_31 : decode prog_13_method_30_code 31 = .ok (.aload_n 0, 1) := by decide +kernel
theorem zd_Ref_rule_32 : decode prog_13_method_30_code 32 = .ok (.iload_n 1, 1) := by decide +kernel
theorem zd_Ref_rule_33 : decode prog_13_method_30_code 33 = .ok (.invokevirtual 158, 3) := by decide +kernel
theorem zd_Ref_rule_36 : decode prog_13_method_30_code 36 = .ok (.iload_n 2, 1) := by decide +kernel
theorem zd_Ref_rule_37 : decode prog_13_method_30_code 37 = .ok (.aload_n 0, 1) := by decide +kernel
theorem zd_Ref_rule_38 : decode prog_13_method_30_code 38 = .ok (.getfield 152, 3) := by decide +kernel
theorem zd_Ref_rule_41 : decode prog_13_method_30_code 41 = .ok (.if_icmp .le 7, 3) := by decide +kernel
theorem zd_Ref_rule_44 : decode prog_13_method_30_code 44 = .ok (.iconst (-1), 1) := by decide +kernel
theorem zd_Ref_rule_45 : decode prog_13_method_30_code 45 = .ok (.goto 34, 3) := by decide +kernel
theorem zd_Ref_rule_48 : decode prog_13_method_30_code 48 = .ok (.aload_n 0, 1) := by decide +kernel
theorem zd_Ref_rule_49 : decode prog_13_method_30_code 49 = .ok (.getfield 41, 3) := by decide +kernel
theorem zd_Ref_rule_52 : decode prog_13_method_30_code 52 = .ok (.iload_n 2, 1) := by decide +kernel
theorem zd_Ref_rule_53 : decode prog_13_method_30_code 53 = .ok (.iconst 1, 1) := by decide +kernel
theorem zd_Ref_rule_54 : decode prog_13_method_30_code 54 = .ok (.isub, 1) := by decide +kernel
theorem zd_Ref_rule_55 : decode prog_13_method_30_code 55 = .ok (.iaload, 1) := by decide +kernel
theorem zd_Ref_rule_56 : decode prog_13_method_30_code 56 = .ok (.iconst 4, 1) := by decide +kernel
theorem zd_Ref_rule_57 : decode prog_13_method_30_code 57 = .ok (.aload_n 0, 1) := by decide +kernel
theorem zd_Ref_rule_58 : decode prog_13_method_30_code 58 = .ok (.getfield 47, 3) := by decide +kernel
theorem zd_Ref_rule_61 : decode prog_13_method_30_code 61 = .ok (.iload_n 2, 1) := by decide +kernel
theorem zd_Ref_rule_62 : decode prog_13_method_30_code 62 = .ok (.iconst 1, 1) := by decide +kernel
theorem zd_Ref_rule_63 : decode prog_13_method_30_code 63 = .ok (.isub, 1) := by decide +kernel
theorem zd_Ref_rule_64 : decode prog_13_method_30_code 64 = .ok (.iaload, 1) := by decide +kernel
theorem zd_Ref_rule_65 : decode prog_13_method_30_code 65 = .ok (.imul, 1) := by decide +kernel
theorem zd_Ref_rule_66 : decode prog_13_method_30_code 66 = .ok (.iadd, 1) := by decide +kernel
theorem zd_Ref_rule_67 : decode prog_13_method_30_code 67 = .ok (.bipush 8, 2) := by decide +kernel
theorem zd_Ref_rule_69 : decode prog_13_method_30_code 69 = .ok (.aload_n 0, 1) := by decide +kernel
theorem zd_Ref_rule_70 : decode prog_13_method_30_code 70 = .ok (.getfield 50, 3) := by decide +kernel
theorem zd_Ref_rule_73 : decode prog_13_method_30_code 73 = .ok (.iload_n 2, 1) := by decide +kernel
theorem zd_Ref_rule_74 : decode prog_13_method_30_code 74 = .ok (.iconst 1, 1) := by decide +kernel
theorem zd_Ref_rule_75 : decode prog_13_method_30_code 75 = .ok (.isub, 1) := by decide +kernel
theorem zd_Ref_rule_76 : decode prog_13_method_30_code 76 = .ok (.iaload, 1) := by decide +kernel
theorem zd_Ref_rule_77 : decode prog_13_method_30_code 77 = .ok (.imul, 1) := by decide +kernel
theorem zd_Ref_rule_78 : decode prog_13_method_30_code 78 = .ok (.iadd, 1) := by decide +kernel
theorem zd_Ref_rule_79 : decode prog_13_method_30_code 79 = .ok (.ireturn, 1) := by decide +kernel
def zm_Ref_threshold : zg_M := (⟨"SurrogateTreeModel", "threshold", "(II)I"⟩, prog_13_method_31_code, 3, (some .int))
theorem zd_Ref_threshold_0 : decode prog_13_method_31_code 0 = .ok (.aload_n 0, 1) := by decide +kernel
theorem zd_Ref_threshold_1 : decode prog_13_method_31_code 1 = .ok (.iload_n 1, 1) := by decide +kernel
theorem zd_Ref_threshold_2 : decode prog_13_method_31_code 2 = .ok (.iload_n 2, 1) := by decide +kernel
theorem zd_Ref_threshold_3 : decode prog_13_method_31_code 3 = .ok (.invokevirtual 198, 3) := by decide +kernel
theorem zd_Ref_threshold_6 : decode prog_13_method_31_code 6 = .ok (.ifCond .ge 5, 3) := by decide +kernel
theorem zd_Ref_threshold_9 : decode prog_13_method_31_code 9 = .ok (.iconst 0, 1) := by decide +kernel
theorem zd_Ref_threshold_10 : decode prog_13_method_31_code 10 = .ok (.ireturn, 1) := by decide +kernel
theorem zd_Ref_threshold_11 : decode prog_13_method_31_code 11 = .ok (.iload_n 2, 1) := by decide +kernel
theorem zd_Ref_threshold_12 : decode prog_13_method_31_code 12 = .ok (.ifCond .ne 10, 3) := by decide +kernel
theorem zd_Ref_threshold_15 : decode prog_13_method_31_code 15 = .ok (.aload_n 0, 1) := by decide +kernel
theorem zd_Ref_threshold_16 : decode prog_13_method_31_code 16 = .ok (.getfield 38, 3) := by decide +kernel
theorem zd_Ref_threshold_19 : decode prog_13_method_31_code 19 = .ok (.iload_n 1, 1) := by decide +kernel
theorem zd_Ref_threshold_20 : decode prog_13_method_31_code 20 = .ok (.iaload, 1) := by decide +kernel
theorem zd_Ref_threshold_21 : decode prog_13_method_31_code 21 = .ok (.ireturn, 1) := by decide +kernel
theorem zd_Ref_threshold_22 : decode prog_13_method_31_code 22 = .ok (.aload_n 0, 1) := by decide +kernel
theorem zd_Ref_threshold_23 : decode prog_13_method_31_code 23 = .ok (.iload_n 1, 1) := by decide +kernel
theorem zd_Ref_threshold_24 : decode prog_13_method_31_code 24 = .ok (.invokevirtual 158, 3) := by decide +kernel
theorem zd_Ref_threshold_27 : decode prog_13_method_31_code 27 = .ok (.aload_n 0, 1) := by decide +kernel
theorem zd_Ref_threshold_28 : decode prog_13_method_31_code 28 = .ok (.getfield 44, 3) := by decide +kernel
theorem zd_Ref_threshold_31 : decode prog_13_method_31_code 31 = .ok (.iload_n 2, 1) := by decide +kernel
theorem zd_Ref_threshold_32 : decode prog_13_method_31_code 32 = .ok (.iconst 1, 1) := by decide +kernel
theorem zd_Ref_threshold_33 : decode prog_13_method_31_code 33 = .ok (.isub, 1) := by decide +kernel
theorem zd_Ref_threshold_34 : decode prog_13_method_31_code 34 = .ok (.iaload, 1) := by decide +kernel
theorem zd_Ref_threshold_35 : decode prog_13_method_31_code 35 = .ok (.ireturn, 1) := by decide +kernel
def zm_Ref_gain : zg_M := (⟨"SurrogateTreeModel", "gain", "(I)J"⟩, prog_13_method_32_code, 5, (some .long))
theorem zd_Ref_gain_0 : decode prog_13_method_32_code 0 = .ok (.aload_n 0, 1) := by decide +kernel
theorem zd_Ref_gain_1 : decode prog_13_method_32_code 1 = .ok (.iload_n 1, 1) := by decide +kernel
theorem zd_Ref_gain_2 : decode prog_13_method_32_code 2 = .ok (.invokevirtual 195, 3) := by decide +kernel
theorem zd_Ref_gain_5 : decode prog_13_method_32_code 5 = .ok (.iconst 2, 1) := by decide +kernel
theorem zd_Ref_gain_6 : decode prog_13_method_32_code 6 = .ok (.if_icmp .eq 5, 3) := by decide +kernel
theorem zd_Ref_gain_9 : decode prog_13_method_32_code 9 = .ok (.lconst 0, 1) := by decide +kernel
theorem zd_Ref_gain_10 : decode prog_13_method_32_code 10 = .ok (.lreturn, 1) := by decide +kernel
theorem zd_Ref_gain_11 : decode prog_13_method_32_code 11 = .ok (.aload_n 0, 1) := by decide +kernel
theorem zd_Ref_gain_12 : decode prog_13_method_32_code 12 = .ok (.aload_n 0, 1) := by decide +kernel
theorem zd_Ref_gain_13 : decode prog_13_method_32_code 13 = .ok (.getfield 32, 3) := by decide +kernel
theorem zd_Ref_gain_16 : decode prog_13_method_32_code 16 = .ok (.iload_n 1, 1) := by decide +kernel
theorem zd_Ref_gain_17 : decode prog_13_method_32_code 17 = .ok (.iaload, 1) := by decide +kernel
theorem zd_Ref_gain_18 : decode prog_13_method_32_code 18 = .ok (.aload_n 0, 1) := by decide +kernel
theorem zd_Ref_gain_19 : decode prog_13_method_32_code 19 = .ok (.getfield 35, 3) := by decide +kernel
theorem zd_Ref_gain_22 : decode prog_13_method_32_code 22 = .ok (.iload_n 1, 1) := by decide +kernel
theorem zd_Ref_gain_23 : decode prog_13_method_32_code 23 = .ok (.iaload, 1) := by decide +kernel
theorem zd_Ref_gain_24 : decode prog_13_method_32_code 24 = .ok (.invokevirtual 118, 3) := by decide +kernel
theorem zd_Ref_gain_27 : decode prog_13_method_32_code 27 = .ok (.istore_n 2, 1) := by decide +kernel
theorem zd_Ref_gain_28 : decode prog_13_method_32_code 28 = .ok (.aload_n 0, 1) := by decide +kernel
theorem zd_Ref_gain_29 : decode prog_13_method_32_code 29 = .ok (.iload_n 2, 1) := by decide +kernel
theorem zd_Ref_gain_30 : decode prog_13_method_32_code 30 = .ok (.aload_n 0, 1) := by decide +kernel
theorem zd_Ref_gain_31 : decode prog_13_method_32_code 31 = .ok (.getfield 35, 3) := by decide +kernel
theorem zd_Ref_gain_34 : decode prog_13_method_32_code 34 = .ok (.iload_n 1, 1) := by decide +kernel
theorem zd_Ref_gain_35 : decode prog_13_method_32_code 35 = .ok (.iaload, 1) := by decide +kernel
theorem zd_Ref_gain_36 : decode prog_13_method_32_code 36 = .ok (.aload_n 0, 1) := by decide +kernel
theorem zd_Ref_gain_37 : decode prog_13_method_32_code 37 = .ok (.getfield 38, 3) := by decide +kernel
theorem zd_Ref_gain_40 : decode prog_13_method_32_code 40 = .ok (.iload_n 1, 1) := by decide +kernel
theorem zd_Ref_gain_41 : decode prog_13_method_32_code 41 = .ok (.iaload, 1) := by decide +kernel
theorem zd_Ref_gain_42 : decode prog_13_method_32_code 42 = .ok (.invokevirtual 129, 3) := by decide +kernel
theorem zd_Ref_gain_45 : decode prog_13_method_32_code 45 = .ok (.istore_n 3, 1) := by decide +kernel
theorem zd_Ref_gain_46 : decode prog_13_method_32_code 46 = .ok (.aload_n 0, 1) := by decide +kernel
theorem zd_Ref_gain_47 : decode prog_13_method_32_code 47 = .ok (.iload_n 3, 1) := by decide +kernel
theorem zd_Ref_gain_48 : decode prog_13_method_32_code 48 = .ok (.iload_n 2, 1) := by decide +kernel
theorem zd_Ref_gain_49 : decode prog_13_method_32_code 49 = .ok (.iload_n 3, 1) := by decide +kernel
theorem zd_Ref_gain_50 : decode prog_13_method_32_code 50 = .ok (.iconst (-1), 1) := by decide +kernel
theorem zd_Ref_gain_51 : decode prog_13_method_32_code 51 = .ok (.ixor, 1) := by decide +kernel
theorem zd_Ref_gain_52 : decode prog_13_method_32_code 52 = .ok (.iand, 1) := by decide +kernel
theorem zd_Ref_gain_53 : decode prog_13_method_32_code 53 = .ok (.invokevirtual 132, 3) := by decide +kernel
theorem zd_Ref_gain_56 : decode prog_13_method_32_code 56 = .ok (.aload_n 0, 1) := by decide +kernel
theorem zd_Ref_gain_57 : decode prog_13_method_32_code 57 = .ok (.getfield 112, 3) := by decide +kernel
theorem zd_Ref_gain_60 : decode prog_13_method_32_code 60 = .ok (.istore 4, 2) := by decide +kernel
theorem zd_Ref_gain_62 : decode prog_13_method_32_code 62 = .ok (.iload 4, 2) := by decide +kernel
theorem zd_Ref_gain_64 : decode prog_13_method_32_code 64 = .ok (.iconst 1, 1) := by decide +kernel
theorem zd_Ref_gain_65 : decode prog_13_method_32_code 65 = .ok (.if_icmp .le 51, 3) := by decide +kernel
theorem zd_Ref_gain_68 : decode prog_13_method_32_code 68 = .ok (.aload_n 0, 1) := by decide +kernel
theorem zd_Ref_gain_69 : decode prog_13_method_32_code 69 = .ok (.getfield 109, 3) := by decide +kernel
theorem zd_Ref_gain_72 : decode prog_13_method_32_code 72 = .ok (.iload 4, 2) := by decide +kernel
theorem zd_Ref_gain_74 : decode prog_13_method_32_code 74 = .ok (.irem, 1) := by decide +kernel
theorem zd_Ref_gain_75 : decode prog_13_method_32_code 75 = .ok (.ifCond .ne 35, 3) := by decide +kernel
theorem zd_Ref_gain_78 : decode prog_13_method_32_code 78 = .ok (.aload_n 0, 1) := by decide +kernel
theorem zd_Ref_gain_79 : decode prog_13_method_32_code 79 = .ok (.getfield 112, 3) := by decide +kernel
theorem zd_Ref_gain_82 : decode prog_13_method_32_code 82 = .ok (.iload 4, 2) := by decide +kernel
theorem zd_Ref_gain_84 : decode prog_13_method_32_code 84 = .ok (.irem, 1) := by decide +kernel
theorem zd_Ref_gain_85 : decode prog_13_method_32_code 85 = .ok (.ifCond .ne 25, 3) := by decide +kernel
theorem zd_Ref_gain_88 : decode prog_13_method_32_code 88 = .ok (.aload_n 0, 1) := by decide +kernel
theorem zd_Ref_gain_89 : decode prog_13_method_32_code 89 = .ok (.aload_n 0, 1) := by decide +kernel
theorem zd_Ref_gain_90 : decode prog_13_method_32_code 90 = .ok (.getfield 109, 3) := by decide +kernel
theorem zd_Ref_gain_93 : decode prog_13_method_32_code 93 = .ok (.iload 4, 2) := by decide +kernel
theorem zd_Ref_gain_95 : decode prog_13_method_32_code 95 = .ok (.idiv, 1) := by decide +kernel
theorem zd_Ref_gain_96 : decode prog_13_method_32_code 96 = .ok (.putfield 109, 3) := by decide +kernel
theorem zd_Ref_gain_99 : decode prog_13_method_32_code 99 = .ok (.aload_n 0, 1) := by decide +kernel
theorem zd_Ref_gain_100 : decode prog_13_method_32_code 100 = .ok (.aload_n 0, 1) := by decide +kernel
theorem zd_Ref_gain_101 : decode prog_13_method_32_code 101 = .ok (.getfield 112, 3) := by decide +kernel
theorem zd_Ref_gain_104 : decode prog_13_method_32_code 104 = .ok (.iload 4, 2) := by decide +kernel
theorem zd_Ref_gain_106 : decode prog_13_method_32_code 106 = .ok (.idiv, 1) := by decide +kernel
theorem zd_Ref_gain_107 : decode prog_13_method_32_code 107 = .ok (.putfield 112, 3) := by decide +kernel
theorem zd_Ref_gain_110 : decode prog_13_method_32_code 110 = .ok (.iinc 4 (-1), 3) := by decide +kernel
theorem zd_Ref_gain_113 : decode prog_13_method_32_code 113 = .ok (.goto (-51), 3) := by decide +kernel
theorem zd_Ref_gain_116 : decode prog_13_method_32_code 116 = .ok (.aload_n 0, 1) := by decide +kernel
theorem zd_Ref_gain_117 : decode prog_13_method_32_code 117 = .ok (.getfield 109, 3) := by decide +kernel
theorem zd_Ref_gain_120 : decode prog_13_method_32_code 120 = .ok (.i2l, 1) := by decide +kernel
theorem zd_Ref_gain_121 : decode prog_13_method_32_code 121 = .ok (.ldc2_w 201, 3) := by decide +kernel
theorem zd_Ref_gain_124 : decode prog_13_method_32_code 124 = .ok (.lmul, 1) := by decide +kernel
theorem zd_Ref_gain_125 : decode prog_13_method_32_code 125 = .ok (.aload_n 0, 1) := by decide +kernel
theorem zd_Ref_gain_126 : decode prog_13_method_32_code 126 = .ok (.getfield 112, 3) := by decide +kernel
theorem zd_Ref_gain_129 : decode prog_13_method_32_code 129 = .ok (.i2l, 1) := by decide +kernel
theorem zd_Ref_gain_130 : decode prog_13_method_32_code 130 = .ok (.ladd, 1) := by decide +kernel
theorem zd_Ref_gain_131 : decode prog_13_method_32_code 131 = .ok (.lreturn, 1) := by decide +kernel
def zm_Ref_rowsOf : zg_M := (⟨"SurrogateTreeModel", "rowsOf", "(I)I"⟩, prog_13_method_33_code, 2, (some .int))
theorem zd_Ref_rowsOf_0 : decode prog_13_method_33_code 0 = .ok (.aload_n 0, 1) := by decide +kernel
theorem zd_Ref_rowsOf_1 : decode prog_13_method_33_code 1 = .ok (.iload_n 1, 1) := by decide +kernel
theorem zd_Ref_rowsOf_2 : decode prog_13_method_33_code 2 = .ok (.invokevirtual 195, 3) := by decide +kernel
theorem zd_Ref_rowsOf_5 : decode prog_13_method_33_code 5 = .ok (.ifCond .ge 7, 3) := by decide +kernel
theorem zd_Ref_rowsOf_8 : decode prog_13_method_33_code 8 = .ok (.iconst (-1), 1) := by decide +kernel
theorem zd_Ref_rowsOf_9 : decode prog_13_method_33_code 9 = .ok (.goto 9, 3) := by decide +kernel
theorem zd_Ref_rowsOf_12 : decode prog_13_method_33_code 12 = .ok (.aload_n 0, 1) := by decide +kernel
theorem zd_Ref_rowsOf_13 : decode prog_13_method_33_code 13 = .ok (.getfield 32, 3) := by decide +kernel
theorem zd_Ref_rowsOf_16 : decode prog_13_method_33_code 16 = .ok (.iload_n 1, 1) := by decide +kernel
theorem zd_Ref_rowsOf_17 : decode prog_13_method_33_code 17 = .ok (.iaload, 1) := by decide +kernel
theorem zd_Ref_rowsOf_18 : decode prog_13_method_33_code 18 = .ok (.ireturn, 1) := by decide +kernel
def zm_Ref_classOf : zg_M := (⟨"SurrogateTreeModel", "classOf", "(I)I"⟩, prog_13_method_34_code, 2, (some .int))
theorem zd_Ref_classOf_0 : decode prog_13_method_34_code 0 = .ok (.aload_n 0, 1) := by decide +kernel
theorem zd_Ref_classOf_1 : decode prog_13_method_34_code 1 = .ok (.iload_n 1, 1) := by decide +kernel
theorem zd_Ref_classOf_2 : decode prog_13_method_34_code 2 = .ok (.invokevirtual 195, 3) := by decide +kernel
theorem zd_Ref_classOf_5 : decode prog_13_method_34_code 5 = .ok (.ifCond .ge 7, 3) := by decide +kernel
theorem zd_Ref_classOf_8 : decode prog_13_method_34_code 8 = .ok (.iconst (-1), 1) := by decide +kernel
theorem zd_Ref_classOf_9 : decode prog_13_method_34_code 9 = .ok (.goto 13, 3) := by decide +kernel
theorem zd_Ref_classOf_12 : decode prog_13_method_34_code 12 = .ok (.aload_n 0, 1) := by decide +kernel
theorem zd_Ref_classOf_13 : decode prog_13_method_34_code 13 = .ok (.aload_n 0, 1) := by decide +kernel
theorem zd_Ref_classOf_14 : decode prog_13_method_34_code 14 = .ok (.getfield 32, 3) := by decide +kernel
theorem zd_Ref_classOf_17 : decode prog_13_method_34_code 17 = .ok (.iload_n 1, 1) := by decide +kernel
theorem zd_Ref_classOf_18 : decode prog_13_method_34_code 18 = .ok (.iaload, 1) := by decide +kernel
theorem zd_Ref_classOf_19 : decode prog_13_method_34_code 19 = .ok (.invokevirtual 102, 3) := by decide +kernel
theorem zd_Ref_classOf_22 : decode prog_13_method_34_code 22 = .ok (.ireturn, 1) := by decide +kernel
def zm_Ref_error : zg_M := (⟨"SurrogateTreeModel", "error", "(I)I"⟩, prog_13_method_35_code, 2, (some .int))
theorem zd_Ref_error_0 : decode prog_13_method_35_code 0 = .ok (.aload_n 0, 1) := by decide +kernel
theorem zd_Ref_error_1 : decode prog_13_method_35_code 1 = .ok (.iload_n 1, 1) := by decide +kernel
theorem zd_Ref_error_2 : decode prog_13_method_35_code 2 = .ok (.invokevirtual 195, 3) := by decide +kernel
theorem zd_Ref_error_5 : decode prog_13_method_35_code 5 = .ok (.ifCond .ge 7, 3) := by decide +kernel
theorem zd_Ref_error_8 : decode prog_13_method_35_code 8 = .ok (.iconst (-1), 1) := by decide +kernel
theorem zd_Ref_error_9 : decode prog_13_method_35_code 9 = .ok (.goto 13, 3) := by decide +kernel
theorem zd_Ref_error_12 : decode prog_13_method_35_code 12 = .ok (.aload_n 0, 1) := by decide +kernel
theorem zd_Ref_error_13 : decode prog_13_method_35_code 13 = .ok (.aload_n 0, 1) := by decide +kernel
theorem zd_Ref_error_14 : decode prog_13_method_35_code 14 = .ok (.getfield 32, 3) := by decide +kernel
theorem zd_Ref_error_17 : decode prog_13_method_35_code 17 = .ok (.iload_n 1, 1) := by decide +kernel
theorem zd_Ref_error_18 : decode prog_13_method_35_code 18 = .ok (.iaload, 1) := by decide +kernel
theorem zd_Ref_error_19 : decode prog_13_method_35_code 19 = .ok (.invokevirtual 180, 3) := by decide +kernel
theorem zd_Ref_error_22 : decode prog_13_method_35_code 22 = .ok (.ireturn, 1) := by decide +kernel
def zm_Ref_reach : zg_M := (⟨"SurrogateTreeModel", "reach", "(III)I"⟩, prog_13_method_36_code, 6, (some .int))
theorem zd_Ref_reach_0 : decode prog_13_method_36_code 0 = .ok (.iconst 1, 1) := by decide +kernel
theorem zd_Ref_reach_1 : decode prog_13_method_36_code 1 = .ok (.istore 4, 2) := by decide +kernel
theorem zd_Ref_reach_3 : decode prog_13_method_36_code 3 = .ok (.iconst 0, 1) := by decide +kernel
theorem zd_Ref_reach_4 : decode prog_13_method_36_code 4 = .ok (.istore 5, 2) := by decide +kernel
theorem zd_Ref_reach_6 : decode prog_13_method_36_code 6 = .ok (.iload 5, 2) := by decide +kernel
theorem zd_Ref_reach_8 : decode prog_13_method_36_code 8 = .ok (.iconst 5, 1) := by decide +kernel
theorem zd_Ref_reach_9 : decode prog_13_method_36_code 9 = .ok (.if_icmp .ge 30, 3) := by decide +kernel
theorem zd_Ref_reach_12 : decode prog_13_method_36_code 12 = .ok (.aload_n 0, 1) := by decide +kernel
theorem zd_Ref_reach_13 : decode prog_13_method_36_code 13 = .ok (.iload 4, 2) := by decide +kernel
theorem zd_Ref_reach_15 : decode prog_13_method_36_code 15 = .ok (.invokevirtual 195, 3) := by decide +kernel
theorem zd_Ref_reach_18 : decode prog_13_method_36_code 18 = .ok (.iconst 2, 1) := by decide +kernel
theorem zd_Ref_reach_19 : decode prog_13_method_36_code 19 = .ok (.if_icmp .ne 20, 3) := by decide +kernel
theorem zd_Ref_reach_22 : decode prog_13_method_36_code 22 = .ok (.aload_n 0, 1) := by decide +kernel
theorem zd_Ref_reach_23 : decode prog_13_method_36_code 23 = .ok (.iload 4, 2) := by decide +kernel
theorem zd_Ref_reach_25 : decode prog_13_method_36_code 25 = .ok (.iload_n 1, 1) := by decide +kernel
theorem zd_Ref_reach_26 : decode prog_13_method_36_code 26 = .ok (.iload_n 2, 1) := by decide +kernel
theorem zd_Ref_reach_27 : decode prog_13_method_36_code 27 = .ok (.iload_n 3, 1) := by decide +kernel
theorem zd_Ref_reach_28 : decode prog_13_method_36_code 28 = .ok (.invokevirtual 169, 3) := by decide +kernel
theorem zd_Ref_reach_31 : decode prog_13_method_36_code 31 = .ok (.istore 4, 2) := by decide +kernel
theorem zd_Ref_reach_33 : decode prog_13_method_36_code 33 = .ok (.iinc 5 1, 3) := by decide +kernel
theorem zd_Ref_reach_36 : decode prog_13_method_36_code 36 = .ok (.goto (-30), 3) := by decide +kernel
theorem zd_Ref_reach_39 : decode prog_13_method_36_code 39 = .ok (.iload 4, 2) := by decide +kernel
theorem zd_Ref_reach_41 : decode prog_13_method_36_code 41 = .ok (.ireturn, 1) := by decide +kernel
def zm_Ref_cut : zg_M := (⟨"SurrogateTreeModel", "cut", "(II)I"⟩, prog_13_method_37_code, 5, (some .int))
theorem zd_Ref_cut_0 : decode prog_13_method_37_code 0 = .ok (.aload_n 0, 1) := by decide +kernel
theorem zd_Ref_cut_1 : decode prog_13_method_37_code 1 = .ok (.invokevirtual 173, 3) := by decide +kernel
theorem zd_Ref_cut_4 : decode prog_13_method_37_code 4 = .ok (.ifCond .gt 25, 3) := by decide +kernel
theorem zd_Ref_cut_7 : decode prog_13_method_37_code 7 = .ok (.iload_n 1, 1) := by decide +kernel
theorem zd_Ref_cut_8 : decode prog_13_method_37_code 8 = .ok (.ifCond .lt 21, 3) := by decide +kernel
theorem zd_Ref_cut_11 : decode prog_13_method_37_code 11 = .ok (.iload_n 1, 1) := by decide +kernel
theorem zd_Ref_cut_12 : decode prog_13_method_37_code 12 = .ok (.sipush 1000, 3) := by decide +kernel
theorem zd_Ref_cut_15 : decode prog_13_method_37_code 15 = .ok (.if_icmp .gt 14, 3) := by decide +kernel
theorem zd_Ref_cut_18 : decode prog_13_method_37_code 18 = .ok (.iload_n 2, 1) := by decide +kernel
theorem zd_Ref_cut_19 : decode prog_13_method_37_code 19 = .ok (.ifCond .lt 10, 3) := by decide +kernel
theorem zd_Ref_cut_22 : decode prog_13_method_37_code 22 = .ok (.iload_n 2, 1) := by decide +kernel
theorem zd_Ref_cut_23 : decode prog_13_method_37_code 23 = .ok (.sipush 1000, 3) := by decide +kernel
theorem zd_Ref_cut_26 : decode prog_13_method_37_code 26 = .ok (.if_icmp .le 5, 3) := by decide +kernel
theorem zd_Ref_cut_29 : decode prog_13_method_37_code 29 = .ok (.iconst (-1), 1) := by decide +kernel
theorem zd_Ref_cut_30 : decode prog_13_method_37_code 30 = .ok (.ireturn, 1) := by decide +kernel
theorem zd_Ref_cut_31 : decode prog_13_method_37_code 31 = .ok (.aload_n 0, 1) := by decide +kernel
theorem zd_Ref_cut_32 : decode prog_13_method_37_code 32 = .ok (.iload_n 2, 1) := by decide +kernel
theorem zd_Ref_cut_33 : decode prog_13_method_37_code 33 = .ok (.ifCond .le 7, 3) := by decide +kernel
theorem zd_Ref_cut_36 : decode prog_13_method_37_code 36 = .ok (.iconst 1, 1) := by decide +kernel
theorem zd_Ref_cut_37 : decode prog_13_method_37_code 37 = .ok (.goto 4, 3) := by decide +kernel
theorem zd_Ref_cut_40 : decode prog_13_method_37_code 40 = .ok (.iconst 0, 1) := by decide +kernel
theorem zd_Ref_cut_41 : decode prog_13_method_37_code 41 = .ok (.putfield 79, 3) := by decide +kernel
theorem zd_Ref_cut_44 : decode prog_13_method_37_code 44 = .ok (.aload_n 0, 1) := by decide +kernel
theorem zd_Ref_cut_45 : decode prog_13_method_37_code 45 = .ok (.iload_n 1, 1) := by decide +kernel
theorem zd_Ref_cut_46 : decode prog_13_method_37_code 46 = .ok (.putfield 186, 3) := by decide +kernel
theorem zd_Ref_cut_49 : decode prog_13_method_37_code 49 = .ok (.aload_n 0, 1) := by decide +kernel
theorem zd_Ref_cut_50 : decode prog_13_method_37_code 50 = .ok (.iload_n 2, 1) := by decide +kernel
theorem zd_Ref_cut_51 : decode prog_13_method_37_code 51 = .ok (.putfield 189, 3) := by decide +kernel
theorem zd_Ref_cut_54 : decode prog_13_method_37_code 54 = .ok (.iconst 0, 1) := by decide +kernel
theorem zd_Ref_cut_55 : decode prog_13_method_37_code 55 = .ok (.istore_n 3, 1) := by decide +kernel
theorem zd_Ref_cut_56 : decode prog_13_method_37_code 56 = .ok (.iconst 1, 1) := by decide +kernel
theorem zd_Ref_cut_57 : decode prog_13_method_37_code 57 = .ok (.istore 4, 2) := by decide +kernel
theorem zd_Ref_cut_59 : decode prog_13_method_37_code 59 = .ok (.iload 4, 2) := by decide +kernel
theorem zd_Ref_cut_61 : decode prog_13_method_37_code 61 = .ok (.bipush 32, 2) := by decide +kernel
theorem zd_Ref_cut_63 : decode prog_13_method_37_code 63 = .ok (.if_icmp .ge 27, 3) := by decide +kernel
theorem zd_Ref_cut_66 : decode prog_13_method_37_code 66 = .ok (.aload_n 0, 1) := by decide +kernel
theorem zd_Ref_cut_67 : decode prog_13_method_37_code 67 = .ok (.iload 4, 2) := by decide +kernel
theorem zd_Ref_cut_69 : decode prog_13_method_37_code 69 = .ok (.invokevirtual 195, 3) := by decide +kernel
theorem zd_Ref_cut_72 : decode prog_13_method_37_code 72 = .ok (.iconst 1, 1) := by decide +kernel
theorem zd_Ref_cut_73 : decode prog_13_method_37_code 73 = .ok (.if_icmp .ne 9, 3) := by decide +kernel
theorem zd_Ref_cut_76 : decode prog_13_method_37_code 76 = .ok (.iload_n 3, 1) := by decide +kernel
theorem zd_Ref_cut_77 : decode prog_13_method_37_code 77 = .ok (.iconst 1, 1) := by decide +kernel
theorem zd_Ref_cut_78 : decode prog_13_method_37_code 78 = .ok (.iadd, 1) := by decide +kernel
theorem zd_Ref_cut_79 : decode prog_13_method_37_code 79 = .ok (.goto 4, 3) := by decide +kernel
theorem zd_Ref_cut_82 : decode prog_13_method_37_code 82 = .ok (.iload_n 3, 1) := by decide +kernel
theorem zd_Ref_cut_83 : decode prog_13_method_37_code 83 = .ok (.istore_n 3, 1) := by decide +kernel
theorem zd_Ref_cut_84 : decode prog_13_method_37_code 84 = .ok (.iinc 4 1, 3) := by decide +kernel
theorem zd_Ref_cut_87 : decode prog_13_method_37_code 87 = .ok (.goto (-28), 3) := by decide +kernel
theorem zd_Ref_cut_90 : decode prog_13_method_37_code 90 = .ok (.iload_n 3, 1) := by decide +kernel
theorem zd_Ref_cut_91 : decode prog_13_method_37_code 91 = .ok (.ireturn, 1) := by decide +kernel
def zm_Ref_breakAt : zg_M := (⟨"SurrogateTreeModel", "breakAt", "(I)I"⟩, prog_13_method_41_code, 4, (some .int))
theorem zd_Ref_breakAt_0 : decode prog_13_method_41_code 0 = .ok (.aload_n 0, 1) := by decide +kernel
theorem zd_Ref_breakAt_1 : decode prog_13_method_41_code 1 = .ok (.invokevirtual 173, 3) := by decide +kernel
theorem zd_Ref_breakAt_4 : decode prog_13_method_41_code 4 = .ok (.ifCond .le 5, 3) := by decide +kernel
theorem zd_Ref_breakAt_7 : decode prog_13_method_41_code 7 = .ok (.iconst (-1), 1) := by decide +kernel
theorem zd_Ref_breakAt_8 : decode prog_13_method_41_code 8 = .ok (.ireturn, 1) := by decide +kernel
theorem zd_Ref_breakAt_9 : decode prog_13_method_41_code 9 = .ok (.aload_n 0, 1) := by decide +kernel
theorem zd_Ref_breakAt_10 : decode prog_13_method_41_code 10 = .ok (.invokevirtual 183, 3) := by decide +kernel
theorem zd_Ref_breakAt_13 : decode prog_13_method_41_code 13 = .ok (.aload_n 0, 1) := by decide +kernel
theorem zd_Ref_breakAt_14 : decode prog_13_method_41_code 14 = .ok (.iconst 0, 1) := by decide +kernel
theorem zd_Ref_breakAt_15 : decode prog_13_method_41_code 15 = .ok (.putfield 203, 3) := by decide +kernel
theorem zd_Ref_breakAt_18 : decode prog_13_method_41_code 18 = .ok (.iconst 1, 1) := by decide +kernel
theorem zd_Ref_breakAt_19 : decode prog_13_method_41_code 19 = .ok (.istore_n 2, 1) := by decide +kernel
theorem zd_Ref_breakAt_20 : decode prog_13_method_41_code 20 = .ok (.iload_n 2, 1) := by decide +kernel
theorem zd_Ref_breakAt_21 : decode prog_13_method_41_code 21 = .ok (.bipush 16, 2) := by decide +kernel
theorem zd_Ref_breakAt_23 : decode prog_13_method_41_code 23 = .ok (.if_icmp .gt 46, 3) := by decide +kernel
theorem zd_Ref_breakAt_26 : decode prog_13_method_41_code 26 = .ok (.iconst 1, 1) := by decide +kernel
theorem zd_Ref_breakAt_27 : decode prog_13_method_41_code 27 = .ok (.istore_n 3, 1) := by decide +kernel
theorem zd_Ref_breakAt_28 : decode prog_13_method_41_code 28 = .ok (.iload_n 3, 1) := by decide +kernel
theorem zd_Ref_breakAt_29 : decode prog_13_method_41_code 29 = .ok (.bipush 15, 2) := by decide +kernel
theorem zd_Ref_breakAt_31 : decode prog_13_method_41_code 31 = .ok (.if_icmp .gt 32, 3) := by decide +kernel
theorem zd_Ref_breakAt_34 : decode prog_13_method_41_code 34 = .ok (.iload_n 2, 1) := by decide +kernel
theorem zd_Ref_breakAt_35 : decode prog_13_method_41_code 35 = .ok (.iload_n 3, 1) := by decide +kernel
theorem zd_Ref_breakAt_36 : decode prog_13_method_41_code 36 = .ok (.invokestatic 206, 3) := by decide +kernel
theorem zd_Ref_breakAt_39 : decode prog_13_method_41_code 39 = .ok (.ifCond .eq 18, 3) := by decide +kernel
theorem zd_Ref_breakAt_42 : decode prog_13_method_41_code 42 = .ok (.aload_n 0, 1) := by decide +kernel
theorem zd_Ref_breakAt_43 : decode prog_13_method_41_code 43 = .ok (.iload_n 2, 1) := by decide +kernel
theorem zd_Ref_breakAt_44 : decode prog_13_method_41_code 44 = .ok (.iload_n 3, 1) := by decide +kernel
theorem zd_Ref_breakAt_45 : decode prog_13_method_41_code 45 = .ok (.invokevirtual 209, 3) := by decide +kernel
theorem zd_Ref_breakAt_48 : decode prog_13_method_41_code 48 = .ok (.ifCond .eq 9, 3) := by decide +kernel
theorem zd_Ref_breakAt_51 : decode prog_13_method_41_code 51 = .ok (.aload_n 0, 1) := by decide +kernel
theorem zd_Ref_breakAt_52 : decode prog_13_method_41_code 52 = .ok (.iload_n 2, 1) := by decide +kernel
theorem zd_Ref_breakAt_53 : decode prog_13_method_41_code 53 = .ok (.iload_n 3, 1) := by decide +kernel
theorem zd_Ref_breakAt_54 : decode prog_13_method_41_code 54 = .ok (.invokevirtual 212, 3) := by decide +kernel
theorem zd_Ref_breakAt_57 : decode prog_13_method_41_code 57 = .ok (.iinc 3 1, 3) := by decide +kernel
theorem zd_Ref_breakAt_60 : decode prog_13_method_41_code 60 = .ok (.goto (-32), 3) := by decide +kernel
theorem zd_Ref_breakAt_63 : decode prog_13_method_41_code 63 = .ok (.iinc 2 1, 3) := by decide +kernel
theorem zd_Ref_breakAt_66 : decode prog_13_method_41_code 66 = .ok (.goto (-46), 3) := by decide +kernel
theorem zd_Ref_breakAt_69 : decode prog_13_method_41_code 69 = .ok (.iload_n 1, 1) := by decide +kernel
theorem zd_Ref_breakAt_70 : decode prog_13_method_41_code 70 = .ok (.ifCond .lt 11, 3) := by decide +kernel
theorem zd_Ref_breakAt_73 : decode prog_13_method_41_code 73 = .ok (.iload_n 1, 1) := by decide +kernel
theorem zd_Ref_breakAt_74 : decode prog_13_method_41_code 74 = .ok (.aload_n 0, 1) := by decide +kernel
theorem zd_Ref_breakAt_75 : decode prog_13_method_41_code 75 = .ok (.getfield 203, 3) := by decide +kernel
theorem zd_Ref_breakAt_78 : decode prog_13_method_41_code 78 = .ok (.if_icmp .lt 7, 3) := by decide +kernel
theorem zd_Ref_breakAt_81 : decode prog_13_method_41_code 81 = .ok (.iconst (-1), 1) := by decide +kernel
theorem zd_Ref_breakAt_82 : decode prog_13_method_41_code 82 = .ok (.goto 19, 3) := by decide +kernel
theorem zd_Ref_breakAt_85 : decode prog_13_method_41_code 85 = .ok (.aload_n 0, 1) := by decide +kernel
theorem zd_Ref_breakAt_86 : decode prog_13_method_41_code 86 = .ok (.getfield 67, 3) := by decide +kernel
theorem zd_Ref_breakAt_89 : decode prog_13_method_41_code 89 = .ok (.iload_n 1, 1) := by decide +kernel
theorem zd_Ref_breakAt_90 : decode prog_13_method_41_code 90 = .ok (.iaload, 1) := by decide +kernel
theorem zd_Ref_breakAt_91 : decode prog_13_method_41_code 91 = .ok (.bipush 32, 2) := by decide +kernel
theorem zd_Ref_breakAt_93 : decode prog_13_method_41_code 93 = .ok (.imul, 1) := by decide +kernel
theorem zd_Ref_breakAt_94 : decode prog_13_method_41_code 94 = .ok (.aload_n 0, 1) := by decide +kernel
theorem zd_Ref_breakAt_95 : decode prog_13_method_41_code 95 = .ok (.getfield 70, 3) := by decide +kernel
theorem zd_Ref_breakAt_98 : decode prog_13_method_41_code 98 = .ok (.iload_n 1, 1) := by decide +kernel
theorem zd_Ref_breakAt_99 : decode prog_13_method_41_code 99 = .ok (.iaload, 1) := by decide +kernel
theorem zd_Ref_breakAt_100 : decode prog_13_method_41_code 100 = .ok (.iadd, 1) := by decide +kernel
theorem zd_Ref_breakAt_101 : decode prog_13_method_41_code 101 = .ok (.ireturn, 1) := by decide +kernel
def zm_Ref_lowest : zg_M := (⟨"SurrogateTreeModel", "lowest", "(II)Z"⟩, prog_13_method_40_code, 4, (some .boolean))
theorem zd_Ref_lowest_0 : decode prog_13_method_40_code 0 = .ok (.iconst 1, 1) := by decide +kernel
theorem zd_Ref_lowest_1 : decode prog_13_method_40_code 1 = .ok (.istore_n 2, 1) := by decide +kernel
theorem zd_Ref_lowest_2 : decode prog_13_method_40_code 2 = .ok (.iconst 2, 1) := by decide +kernel
theorem zd_Ref_lowest_3 : decode prog_13_method_40_code 3 = .ok (.istore_n 3, 1) := by decide +kernel
theorem zd_Ref_lowest_4 : decode prog_13_method_40_code 4 = .ok (.iload_n 3, 1) := by decide +kernel
theorem zd_Ref_lowest_5 : decode prog_13_method_40_code 5 = .ok (.bipush 16, 2) := by decide +kernel
theorem zd_Ref_lowest_7 : decode prog_13_method_40_code 7 = .ok (.if_icmp .gt 31, 3) := by decide +kernel
theorem zd_Ref_lowest_10 : decode prog_13_method_40_code 10 = .ok (.iload_n 2, 1) := by decide +kernel
theorem zd_Ref_lowest_11 : decode prog_13_method_40_code 11 = .ok (.ifCond .eq 19, 3) := by decide +kernel
theorem zd_Ref_lowest_14 : decode prog_13_method_40_code 14 = .ok (.iload_n 0, 1) := by decide +kernel
theorem zd_Ref_lowest_15 : decode prog_13_method_40_code 15 = .ok (.iload_n 3, 1) := by decide +kernel
theorem zd_Ref_lowest_16 : decode prog_13_method_40_code 16 = .ok (.irem, 1) := by decide +kernel
theorem zd_Ref_lowest_17 : decode prog_13_method_40_code 17 = .ok (.ifCond .ne 9, 3) := by decide +kernel
theorem zd_Ref_lowest_20 : decode prog_13_method_40_code 20 = .ok (.iload_n 1, 1) := by decide +kernel
theorem zd_Ref_lowest_21 : decode prog_13_method_40_code 21 = .ok (.iload_n 3, 1) := by decide +kernel
theorem zd_Ref_lowest_22 : decode prog_13_method_40_code 22 = .ok (.irem, 1) := by decide +kernel
theorem zd_Ref_lowest_23 : decode prog_13_method_40_code 23 = .ok (.ifCond .eq 7, 3) := by decide +kernel
theorem zd_Ref_lowest_26 : decode prog_13_method_40_code 26 = .ok (.iconst 1, 1) := by decide +kernel
theorem zd_Ref_lowest_27 : decode prog_13_method_40_code 27 = .ok (.goto 4, 3) := by decide +kernel
theorem zd_Ref_lowest_30 : decode prog_13_method_40_code 30 = .ok (.iconst 0, 1) := by decide +kernel
theorem zd_Ref_lowest_31 : decode prog_13_method_40_code 31 = .ok (.istore_n 2, 1) := by decide +kernel
theorem zd_Ref_lowest_32 : decode prog_13_method_40_code 32 = .ok (.iinc 3 1, 3) := by decide +kernel
theorem zd_Ref_lowest_35 : decode prog_13_method_40_code 35 = .ok (.goto (-31), 3) := by decide +kernel
theorem zd_Ref_lowest_38 : decode prog_13_method_40_code 38 = .ok (.iload_n 2, 1) := by decide +kernel
theorem zd_Ref_lowest_39 : decode prog_13_method_40_code 39 = .ok (.ireturn, 1) := by decide +kernel
def zm_Ref_breaksAt : zg_M := (⟨"SurrogateTreeModel", "breaksAt", "(II)Z"⟩, prog_13_method_38_code, 4, (some .boolean))
theorem zd_Ref_breaksAt_0 : decode prog_13_method_38_code 0 = .ok (.aload_n 0, 1) := by decide +kernel
theorem zd_Ref_breaksAt_1 : decode prog_13_method_38_code 1 = .ok (.iload_n 1, 1) := by decide +kernel
theorem zd_Ref_breaksAt_2 : decode prog_13_method_38_code 2 = .ok (.iload_n 2, 1) := by decide +kernel
theorem zd_Ref_breaksAt_3 : decode prog_13_method_38_code 3 = .ok (.invokevirtual 192, 3) := by decide +kernel
theorem zd_Ref_breaksAt_6 : decode prog_13_method_38_code 6 = .ok (.istore_n 3, 1) := by decide +kernel
theorem zd_Ref_breaksAt_7 : decode prog_13_method_38_code 7 = .ok (.iload_n 3, 1) := by decide +kernel
theorem zd_Ref_breaksAt_8 : decode prog_13_method_38_code 8 = .ok (.aload_n 0, 1) := by decide +kernel
theorem zd_Ref_breaksAt_9 : decode prog_13_method_38_code 9 = .ok (.sipush 1000, 3) := by decide +kernel
theorem zd_Ref_breaksAt_12 : decode prog_13_method_38_code 12 = .ok (.iload_n 1, 1) := by decide +kernel
theorem zd_Ref_breaksAt_13 : decode prog_13_method_38_code 13 = .ok (.imul, 1) := by decide +kernel
theorem zd_Ref_breaksAt_14 : decode prog_13_method_38_code 14 = .ok (.iconst 1, 1) := by decide +kernel
theorem zd_Ref_breaksAt_15 : decode prog_13_method_38_code 15 = .ok (.isub, 1) := by decide +kernel
theorem zd_Ref_breaksAt_16 : decode prog_13_method_38_code 16 = .ok (.sipush 1000, 3) := by decide +kernel
theorem zd_Ref_breaksAt_19 : decode prog_13_method_38_code 19 = .ok (.iload_n 2, 1) := by decide +kernel
theorem zd_Ref_breaksAt_20 : decode prog_13_method_38_code 20 = .ok (.imul, 1) := by decide +kernel
theorem zd_Ref_breaksAt_21 : decode prog_13_method_38_code 21 = .ok (.invokevirtual 192, 3) := by decide +kernel
theorem zd_Ref_breaksAt_24 : decode prog_13_method_38_code 24 = .ok (.if_icmp .ge 7, 3) := by decide +kernel
theorem zd_Ref_breaksAt_27 : decode prog_13_method_38_code 27 = .ok (.iconst 1, 1) := by decide +kernel
theorem zd_Ref_breaksAt_28 : decode prog_13_method_38_code 28 = .ok (.goto 4, 3) := by decide +kernel
theorem zd_Ref_breaksAt_31 : decode prog_13_method_38_code 31 = .ok (.iconst 0, 1) := by decide +kernel
theorem zd_Ref_breaksAt_32 : decode prog_13_method_38_code 32 = .ok (.ireturn, 1) := by decide +kernel
def zm_Ref_insert : zg_M := (⟨"SurrogateTreeModel", "insert", "(II)V"⟩, prog_13_method_39_code, 4, none)
theorem zd_Ref_insert_0 : decode prog_13_method_39_code 0 = .ok (.aload_n 0, 1) := by decide +kernel
theorem zd_Ref_insert_1 : decode prog_13_method_39_code 1 = .ok (.getfield 203, 3) := by decide +kernel
theorem zd_Ref_insert_4 : decode prog_13_method_39_code 4 = .ok (.istore_n 3, 1) := by decide +kernel
theorem zd_Ref_insert_5 : decode prog_13_method_39_code 5 = .ok (.iload_n 3, 1) := by decide +kernel
theorem zd_Ref_insert_6 : decode prog_13_method_39_code 6 = .ok (.ifCond .le 60, 3) := by decide +kernel
theorem zd_Ref_insert_9 : decode prog_13_method_39_code 9 = .ok (.aload_n 0, 1) := by decide +kernel
theorem zd_Ref_insert_10 : decode prog_13_method_39_code 10 = .ok (.getfield 67, 3) := by decide +kernel
theorem zd_Ref_insert_13 : decode prog_13_method_39_code 13 = .ok (.iload_n 3, 1) := by decide +kernel
theorem zd_Ref_insert_14 : decode prog_13_method_39_code 14 = .ok (.iconst 1, 1) := by decide +kernel
theorem zd_Ref_insert_15 : decode prog_13_method_39_code 15 = .ok (.isub, 1) := by decide +kernel
theorem zd_Ref_insert_16 : decode prog_13_method_39_code 16 = .ok (.iaload, 1) := by decide +kernel
theorem zd_Ref_insert_17 : decode prog_13_method_39_code 17 = .ok (.iload_n 2, 1) := by decide +kernel
theorem zd_Ref_insert_18 : decode prog_13_method_39_code 18 = .ok (.imul, 1) := by decide +kernel
theorem zd_Ref_insert_19 : decode prog_13_method_39_code 19 = .ok (.iload_n 1, 1) := by decide +kernel
theorem zd_Ref_insert_20 : decode prog_13_method_39_code 20 = .ok (.aload_n 0, 1) := by decide +kernel
theorem zd_Ref_insert_21 : decode prog_13_method_39_code 21 = .ok (.getfield 70, 3) := by decide +kernel
theorem zd_Ref_insert_24 : decode prog_13_method_39_code 24 = .ok (.iload_n 3, 1) := by decide +kernel
theorem zd_Ref_insert_25 : decode prog_13_method_39_code 25 = .ok (.iconst 1, 1) := by decide +kernel
theorem zd_Ref_insert_26 : decode prog_13_method_39_code 26 = .ok (.isub, 1) := by decide +kernel
theorem zd_Ref_insert_27 : decode prog_13_method_39_code 27 = .ok (.iaload, 1) := by decide +kernel
theorem zd_Ref_insert_28 : decode prog_13_method_39_code 28 = .ok (.imul, 1) := by decide +kernel
theorem zd_Ref_insert_29 : decode prog_13_method_39_code 29 = .ok (.if_icmp .le 37, 3) := by decide +kernel
theorem zd_Ref_insert_32 : decode prog_13_method_39_code 32 = .ok (.aload_n 0, 1) := by decide +kernel
theorem zd_Ref_insert_33 : decode prog_13_method_39_code 33 = .ok (.getfield 67, 3) := by decide +kernel
theorem zd_Ref_insert_36 : decode prog_13_method_39_code 36 = .ok (.iload_n 3, 1) := by decide +kernel
theorem zd_Ref_insert_37 : decode prog_13_method_39_code 37 = .ok (.aload_n 0, 1) := by decide +kernel
theorem zd_Ref_insert_38 : decode prog_13_method_39_code 38 = .ok (.getfield 67, 3) := by decide +kernel
theorem zd_Ref_insert_41 : decode prog_13_method_39_code 41 = .ok (.iload_n 3, 1) := by decide +kernel
theorem zd_Ref_insert_42 : decode prog_13_method_39_code 42 = .ok (.iconst 1, 1) := by decide +kernel
theorem zd_Ref_insert_43 : decode prog_13_method_39_code 43 = .ok (.isub, 1) := by decide +kernel
theorem zd_Ref_insert_44 : decode prog_13_method_39_code 44 = .ok (.iaload, 1) := by decide +kernel
theorem zd_Ref_insert_45 : decode prog_13_method_39_code 45 = .ok (.iastore, 1) := by decide +kernel
theorem zd_Ref_insert_46 : decode prog_13_method_39_code 46 = .ok (.aload_n 0, 1) := by decide +kernel
theorem zd_Ref_insert_47 : decode prog_13_method_39_code 47 = .ok (.getfield 70, 3) := by decide +kernel
theorem zd_Ref_insert_50 : decode prog_13_method_39_code 50 = .ok (.iload_n 3, 1) := by decide +kernel
theorem zd_Ref_insert_51 : decode prog_13_method_39_code 51 = .ok (.aload_n 0, 1) := by decide +kernel
theorem zd_Ref_insert_52 : decode prog_13_method_39_code 52 = .ok (.getfield 70, 3) := by decide +kernel
theorem zd_Ref_insert_55 : decode prog_13_method_39_code 55 = .ok (.iload_n 3, 1) := by decide +kernel
theorem zd_Ref_insert_56 : decode prog_13_method_39_code 56 = .ok (.iconst 1, 1) := by decide +kernel
theorem zd_Ref_insert_57 : decode prog_13_method_39_code 57 = .ok (.isub, 1) := by decide +kernel
theorem zd_Ref_insert_58 : decode prog_13_method_39_code 58 = .ok (.iaload, 1) := by decide +kernel
theorem zd_Ref_insert_59 : decode prog_13_method_39_code 59 = .ok (.iastore, 1) := by decide +kernel
theorem zd_Ref_insert_60 : decode prog_13_method_39_code 60 = .ok (.iinc 3 (-1), 3) := by decide +kernel
theorem zd_Ref_insert_63 : decode prog_13_method_39_code 63 = .ok (.goto (-58), 3) := by decide +kernel
theorem zd_Ref_insert_66 : decode prog_13_method_39_code 66 = .ok (.aload_n 0, 1) := by decide +kernel
theorem zd_Ref_insert_67 : decode prog_13_method_39_code 67 = .ok (.getfield 67, 3) := by decide +kernel
theorem zd_Ref_insert_70 : decode prog_13_method_39_code 70 = .ok (.iload_n 3, 1) := by decide +kernel
theorem zd_Ref_insert_71 : decode prog_13_method_39_code 71 = .ok (.iload_n 1, 1) := by decide +kernel
theorem zd_Ref_insert_72 : decode prog_13_method_39_code 72 = .ok (.iastore, 1) := by decide +kernel
theorem zd_Ref_insert_73 : decode prog_13_method_39_code 73 = .ok (.aload_n 0, 1) := by decide +kernel
theorem zd_Ref_insert_74 : decode prog_13_method_39_code 74 = .ok (.getfield 70, 3) := by decide +kernel
theorem zd_Ref_insert_77 : decode prog_13_method_39_code 77 = .ok (.iload_n 3, 1) := by decide +kernel
theorem zd_Ref_insert_78 : decode prog_13_method_39_code 78 = .ok (.iload_n 2, 1) := by decide +kernel
theorem zd_Ref_insert_79 : decode prog_13_method_39_code 79 = .ok (.iastore, 1) := by decide +kernel
theorem zd_Ref_insert_80 : decode prog_13_method_39_code 80 = .ok (.aload_n 0, 1) := by decide +kernel
theorem zd_Ref_insert_81 : decode prog_13_method_39_code 81 = .ok (.dup, 1) := by decide +kernel
theorem zd_Ref_insert_82 : decode prog_13_method_39_code 82 = .ok (.getfield 203, 3) := by decide +kernel
theorem zd_Ref_insert_85 : decode prog_13_method_39_code 85 = .ok (.iconst 1, 1) := by decide +kernel
theorem zd_Ref_insert_86 : decode prog_13_method_39_code 86 = .ok (.iadd, 1) := by decide +kernel
theorem zd_Ref_insert_87 : decode prog_13_method_39_code 87 = .ok (.putfield 203, 3) := by decide +kernel
theorem zd_Ref_insert_90 : decode prog_13_method_39_code 90 = .ok (.return_, 1) := by decide +kernel
def zm_Ref_tally : zg_M := (⟨"SurrogateTreeModel", "tally", "()I"⟩, prog_13_method_42_code, 4, (some .int))
theorem zd_Ref_tally_0 : decode prog_13_method_42_code 0 = .ok (.aload_n 0, 1) := by decide +kernel
theorem zd_Ref_tally_1 : decode prog_13_method_42_code 1 = .ok (.invokevirtual 173, 3) := by decide +kernel
theorem zd_Ref_tally_4 : decode prog_13_method_42_code 4 = .ok (.ifCond .le 5, 3) := by decide +kernel
theorem zd_Ref_tally_7 : decode prog_13_method_42_code 7 = .ok (.iconst (-1), 1) := by decide +kernel
theorem zd_Ref_tally_8 : decode prog_13_method_42_code 8 = .ok (.ireturn, 1) := by decide +kernel
theorem zd_Ref_tally_9 : decode prog_13_method_42_code 9 = .ok (.iconst 0, 1) := by decide +kernel
theorem zd_Ref_tally_10 : decode prog_13_method_42_code 10 = .ok (.istore_n 1, 1) := by decide +kernel
theorem zd_Ref_tally_11 : decode prog_13_method_42_code 11 = .ok (.iconst 0, 1) := by decide +kernel
theorem zd_Ref_tally_12 : decode prog_13_method_42_code 12 = .ok (.istore_n 2, 1) := by decide +kernel
theorem zd_Ref_tally_13 : decode prog_13_method_42_code 13 = .ok (.iload_n 2, 1) := by decide +kernel
theorem zd_Ref_tally_14 : decode prog_13_method_42_code 14 = .ok (.aload_n 0, 1) := by decide +kernel
theorem zd_Ref_tally_15 : decode prog_13_method_42_code 15 = .ok (.getfield 76, 3) := by decide +kernel
theorem zd_Ref_tally_18 : decode prog_13_method_42_code 18 = .ok (.if_icmp .ge 77, 3) := by decide +kernel
theorem zd_Ref_tally_21 : decode prog_13_method_42_code 21 = .ok (.aload_n 0, 1) := by decide +kernel
theorem zd_Ref_tally_22 : decode prog_13_method_42_code 22 = .ok (.getfield 16, 3) := by decide +kernel
theorem zd_Ref_tally_25 : decode prog_13_method_42_code 25 = .ok (.iload_n 2, 1) := by decide +kernel
theorem zd_Ref_tally_26 : decode prog_13_method_42_code 26 = .ok (.iaload, 1) := by decide +kernel
theorem zd_Ref_tally_27 : decode prog_13_method_42_code 27 = .ok (.ifCond .ne 62, 3) := by decide +kernel
theorem zd_Ref_tally_30 : decode prog_13_method_42_code 30 = .ok (.aload_n 0, 1) := by decide +kernel
theorem zd_Ref_tally_31 : decode prog_13_method_42_code 31 = .ok (.aload_n 0, 1) := by decide +kernel
theorem zd_Ref_tally_32 : decode prog_13_method_42_code 32 = .ok (.getfield 7, 3) := by decide +kernel
theorem zd_Ref_tally_35 : decode prog_13_method_42_code 35 = .ok (.iconst 3, 1) := by decide +kernel
theorem zd_Ref_tally_36 : decode prog_13_method_42_code 36 = .ok (.iload_n 2, 1) := by decide +kernel
theorem zd_Ref_tally_37 : decode prog_13_method_42_code 37 = .ok (.imul, 1) := by decide +kernel
theorem zd_Ref_tally_38 : decode prog_13_method_42_code 38 = .ok (.iaload, 1) := by decide +kernel
theorem zd_Ref_tally_39 : decode prog_13_method_42_code 39 = .ok (.aload_n 0, 1) := by decide +kernel
theorem zd_Ref_tally_40 : decode prog_13_method_42_code 40 = .ok (.getfield 7, 3) := by decide +kernel
theorem zd_Ref_tally_43 : decode prog_13_method_42_code 43 = .ok (.iconst 3, 1) := by decide +kernel
theorem zd_Ref_tally_44 : decode prog_13_method_42_code 44 = .ok (.iload_n 2, 1) := by decide +kernel
theorem zd_Ref_tally_45 : decode prog_13_method_42_code 45 = .ok (.imul, 1) := by decide +kernel
theorem zd_Ref_tally_46 : decode prog_13_method_42_code 46 = .ok (.iconst 1, 1) := by decide +kernel
theorem zd_Ref_tally_47 : decode prog_13_method_42_code 47 = .ok (.iadd, 1) := by decide +kernel
theorem zd_Ref_tally_48 : decode prog_13_method_42_code 48 = .ok (.iaload, 1) := by decide +kernel
theorem zd_Ref_tally_49 : decode prog_13_method_42_code 49 = .ok (.aload_n 0, 1) := by decide +kernel
theorem zd_Ref_tally_50 : decode prog_13_method_42_code 50 = .ok (.getfield 7, 3) := by decide +kernel
theorem zd_Ref_tally_53 : decode prog_13_method_42_code 53 = .ok (.iconst 3, 1) := by decide +kernel
theorem zd_Ref_tally_54 : decode prog_13_method_42_code 54 = .ok (.iload_n 2, 1) := by decide +kernel
theorem zd_Ref_tally_55 : decode prog_13_method_42_code 55 = .ok (.imul, 1) := by decide +kernel
theorem zd_Ref_tally_56 : decode prog_13_method_42_code 56 = .ok (.iconst 2, 1) := by decide +kernel
theorem zd_Ref_tally_57 : decode prog_13_method_42_code 57 = .ok (.iadd, 1) := by decide +kernel
theorem zd_Ref_tally_58 : decode prog_13_method_42_code 58 = .ok (.iaload, 1) := by decide +kernel
theorem zd_Ref_tally_59 : decode prog_13_method_42_code 59 = .ok (.invokevirtual 215, 3) := by decide +kernel
theorem zd_Ref_tally_62 : decode prog_13_method_42_code 62 = .ok (.istore_n 3, 1) := by decide +kernel
theorem zd_Ref_tally_63 : decode prog_13_method_42_code 63 = .ok (.aload_n 0, 1) := by decide +kernel
theorem zd_Ref_tally_64 : decode prog_13_method_42_code 64 = .ok (.getfield 19, 3) := by decide +kernel
theorem zd_Ref_tally_67 : decode prog_13_method_42_code 67 = .ok (.iconst 4, 1) := by decide +kernel
theorem zd_Ref_tally_68 : decode prog_13_method_42_code 68 = .ok (.iload_n 2, 1) := by decide +kernel
theorem zd_Ref_tally_69 : decode prog_13_method_42_code 69 = .ok (.imul, 1) := by decide +kernel
theorem zd_Ref_tally_70 : decode prog_13_method_42_code 70 = .ok (.aload_n 0, 1) := by decide +kernel
theorem zd_Ref_tally_71 : decode prog_13_method_42_code 71 = .ok (.aload_n 0, 1) := by decide +kernel
theorem zd_Ref_tally_72 : decode prog_13_method_42_code 72 = .ok (.getfield 32, 3) := by decide +kernel
theorem zd_Ref_tally_75 : decode prog_13_method_42_code 75 = .ok (.iload_n 3, 1) := by decide +kernel
theorem zd_Ref_tally_76 : decode prog_13_method_42_code 76 = .ok (.iaload, 1) := by decide +kernel
theorem zd_Ref_tally_77 : decode prog_13_method_42_code 77 = .ok (.invokevirtual 102, 3) := by decide +kernel
theorem zd_Ref_tally_80 : decode prog_13_method_42_code 80 = .ok (.iadd, 1) := by decide +kernel
theorem zd_Ref_tally_81 : decode prog_13_method_42_code 81 = .ok (.dup2, 1) := by decide +kernel
theorem zd_Ref_tally_82 : decode prog_13_method_42_code 82 = .ok (.iaload, 1) := by decide +kernel
theorem zd_Ref_tally_83 : decode prog_13_method_42_code 83 = .ok (.iconst 1, 1) := by decide +kernel
theorem zd_Ref_tally_84 : decode prog_13_method_42_code 84 = .ok (.iadd, 1) := by decide +kernel
theorem zd_Ref_tally_85 : decode prog_13_method_42_code 85 = .ok (.iastore, 1) := by decide +kernel
theorem zd_Ref_tally_86 : decode prog_13_method_42_code 86 = .ok (.iinc 1 1, 3) := by decide +kernel
theorem zd_Ref_tally_89 : decode prog_13_method_42_code 89 = .ok (.iinc 2 1, 3) := by decide +kernel
theorem zd_Ref_tally_92 : decode prog_13_method_42_code 92 = .ok (.goto (-79), 3) := by decide +kernel
theorem zd_Ref_tally_95 : decode prog_13_method_42_code 95 = .ok (.iload_n 1, 1) := by decide +kernel
theorem zd_Ref_tally_96 : decode prog_13_method_42_code 96 = .ok (.ireturn, 1) := by decide +kernel
def zm_Ref_votes : zg_M := (⟨"SurrogateTreeModel", "votes", "(II)I"⟩, prog_13_method_43_code, 3, (some .int))
theorem zd_Ref_votes_0 : decode prog_13_method_43_code 0 = .ok (.iload_n 1, 1) := by decide +kernel
theorem zd_Ref_votes_1 : decode prog_13_method_43_code 1 = .ok (.ifCond .lt 20, 3) := by decide +kernel
theorem zd_Ref_votes_4 : decode prog_13_method_43_code 4 = .ok (.iload_n 1, 1) := by decide +kernel
theorem zd_Ref_votes_5 : decode prog_13_method_43_code 5 = .ok (.aload_n 0, 1) := by decide +kernel
theorem zd_Ref_votes_6 : decode prog_13_method_43_code 6 = .ok (.getfield 76, 3) := by decide +kernel
theorem zd_Ref_votes_9 : decode prog_13_method_43_code 9 = .ok (.if_icmp .ge 12, 3) := by decide +kernel
theorem zd_Ref_votes_12 : decode prog_13_method_43_code 12 = .ok (.iload_n 2, 1) := by decide +kernel
theorem zd_Ref_votes_13 : decode prog_13_method_43_code 13 = .ok (.ifCond .lt 8, 3) := by decide +kernel
theorem zd_Ref_votes_16 : decode prog_13_method_43_code 16 = .ok (.iload_n 2, 1) := by decide +kernel
theorem zd_Ref_votes_17 : decode prog_13_method_43_code 17 = .ok (.iconst 3, 1) := by decide +kernel
theorem zd_Ref_votes_18 : decode prog_13_method_43_code 18 = .ok (.if_icmp .le 7, 3) := by decide +kernel
theorem zd_Ref_votes_21 : decode prog_13_method_43_code 21 = .ok (.iconst (-1), 1) := by decide +kernel
theorem zd_Ref_votes_22 : decode prog_13_method_43_code 22 = .ok (.goto 13, 3) := by decide +kernel
theorem zd_Ref_votes_25 : decode prog_13_method_43_code 25 = .ok (.aload_n 0, 1) := by decide +kernel
theorem zd_Ref_votes_26 : decode prog_13_method_43_code 26 = .ok (.getfield 19, 3) := by decide +kernel
theorem zd_Ref_votes_29 : decode prog_13_method_43_code 29 = .ok (.iconst 4, 1) := by decide +kernel
theorem zd_Ref_votes_30 : decode prog_13_method_43_code 30 = .ok (.iload_n 1, 1) := by decide +kernel
theorem zd_Ref_votes_31 : decode prog_13_method_43_code 31 = .ok (.imul, 1) := by decide +kernel
theorem zd_Ref_votes_32 : decode prog_13_method_43_code 32 = .ok (.iload_n 2, 1) := by decide +kernel
theorem zd_Ref_votes_33 : decode prog_13_method_43_code 33 = .ok (.iadd, 1) := by decide +kernel
theorem zd_Ref_votes_34 : decode prog_13_method_43_code 34 = .ok (.iaload, 1) := by decide +kernel
theorem zd_Ref_votes_35 : decode prog_13_method_43_code 35 = .ok (.ireturn, 1) := by decide +kernel
def zm_Ref_wrong : zg_M := (⟨"SurrogateTreeModel", "wrong", "()I"⟩, prog_13_method_44_code, 5, (some .int))
theorem zd_Ref_wrong_0 : decode prog_13_method_44_code 0 = .ok (.iconst 0, 1) := by decide +kernel
theorem zd_Ref_wrong_1 : decode prog_13_method_44_code 1 = .ok (.istore_n 1, 1) := by decide +kernel
theorem zd_Ref_wrong_2 : decode prog_13_method_44_code 2 = .ok (.iconst 0, 1) := by decide +kernel
theorem zd_Ref_wrong_3 : decode prog_13_method_44_code 3 = .ok (.istore_n 2, 1) := by decide +kernel
theorem zd_Ref_wrong_4 : decode prog_13_method_44_code 4 = .ok (.iload_n 2, 1) := by decide +kernel
theorem zd_Ref_wrong_5 : decode prog_13_method_44_code 5 = .ok (.aload_n 0, 1) := by decide +kernel
theorem zd_Ref_wrong_6 : decode prog_13_method_44_code 6 = .ok (.getfield 76, 3) := by decide +kernel
theorem zd_Ref_wrong_9 : decode prog_13_method_44_code 9 = .ok (.if_icmp .ge 88, 3) := by decide +kernel
theorem zd_Ref_wrong_12 : decode prog_13_method_44_code 12 = .ok (.iconst 0, 1) := by decide +kernel
theorem zd_Ref_wrong_13 : decode prog_13_method_44_code 13 = .ok (.istore_n 3, 1) := by decide +kernel
theorem zd_Ref_wrong_14 : decode prog_13_method_44_code 14 = .ok (.iconst 1, 1) := by decide +kernel
theorem zd_Ref_wrong_15 : decode prog_13_method_44_code 15 = .ok (.istore 4, 2) := by decide +kernel
theorem zd_Ref_wrong_17 : decode prog_13_method_44_code 17 = .ok (.iload 4, 2) := by decide +kernel
theorem zd_Ref_wrong_19 : decode prog_13_method_44_code 19 = .ok (.iconst 4, 1) := by decide +kernel
theorem zd_Ref_wrong_20 : decode prog_13_method_44_code 20 = .ok (.if_icmp .ge 40, 3) := by decide +kernel
theorem zd_Ref_wrong_23 : decode prog_13_method_44_code 23 = .ok (.aload_n 0, 1) := by decide +kernel
theorem zd_Ref_wrong_24 : decode prog_13_method_44_code 24 = .ok (.getfield 19, 3) := by decide +kernel
theorem zd_Ref_wrong_27 : decode prog_13_method_44_code 27 = .ok (.iconst 4, 1) := by decide +kernel
theorem zd_Ref_wrong_28 : decode prog_13_method_44_code 28 = .ok (.iload_n 2, 1) := by decide +kernel
theorem zd_Ref_wrong_29 : decode prog_13_method_44_code 29 = .ok (.imul, 1) := by decide +kernel
theorem zd_Ref_wrong_30 : decode prog_13_method_44_code 30 = .ok (.iload 4, 2) := by decide +kernel
theorem zd_Ref_wrong_32 : decode prog_13_method_44_code 32 = .ok (.iadd, 1) := by decide +kernel
theorem zd_Ref_wrong_33 : decode prog_13_method_44_code 33 = .ok (.iaload, 1) := by decide +kernel
theorem zd_Ref_wrong_34 : decode prog_13_method_44_code 34 = .ok (.aload_n 0, 1) := by decide +kernel
theorem zd_Ref_wrong_35 : decode prog_13_method_44_code 35 = .ok (.getfield 19, 3) := by decide +kernel
theorem zd_Ref_wrong_38 : decode prog_13_method_44_code 38 = .ok (.iconst 4, 1) := by decide +kernel
theorem zd_Ref_wrong_39 : decode prog_13_method_44_code 39 = .ok (.iload_n 2, 1) := by decide +kernel
theorem zd_Ref_wrong_40 : decode prog_13_method_44_code 40 = .ok (.imul, 1) := by decide +kernel
theorem zd_Ref_wrong_41 : decode prog_13_method_44_code 41 = .ok (.iload_n 3, 1) := by decide +kernel
theorem zd_Ref_wrong_42 : decode prog_13_method_44_code 42 = .ok (.iadd, 1) := by decide +kernel
theorem zd_Ref_wrong_43 : decode prog_13_method_44_code 43 = .ok (.iaload, 1) := by decide +kernel
theorem zd_Ref_wrong_44 : decode prog_13_method_44_code 44 = .ok (.if_icmp .le 8, 3) := by decide +kernel
theorem zd_Ref_wrong_47 : decode prog_13_method_44_code 47 = .ok (.iload 4, 2) := by decide +kernel
theorem zd_Ref_wrong_49 : decode prog_13_method_44_code 49 = .ok (.goto 4, 3) := by decide +kernel
theorem zd_Ref_wrong_52 : decode prog_13_method_44_code 52 = .ok (.iload_n 3, 1) := by decide +kernel
theorem zd_Ref_wrong_53 : decode prog_13_method_44_code 53 = .ok (.istore_n 3, 1) := by decide +kernel
theorem zd_Ref_wrong_54 : decode prog_13_method_44_code 54 = .ok (.iinc 4 1, 3) := by decide +kernel
theorem zd_Ref_wrong_57 : decode prog_13_method_44_code 57 = .ok (.goto (-40), 3) := by decide +kernel
theorem zd_Ref_wrong_60 : decode prog_13_method_44_code 60 = .ok (.aload_n 0, 1) := by decide +kernel
theorem zd_Ref_wrong_61 : decode prog_13_method_44_code 61 = .ok (.getfield 19, 3) := by decide +kernel
theorem zd_Ref_wrong_64 : decode prog_13_method_44_code 64 = .ok (.iconst 4, 1) := by decide +kernel
theorem zd_Ref_wrong_65 : decode prog_13_method_44_code 65 = .ok (.iload_n 2, 1) := by decide +kernel
theorem zd_Ref_wrong_66 : decode prog_13_method_44_code 66 = .ok (.imul, 1) := by decide +kernel
theorem zd_Ref_wrong_67 : decode prog_13_method_44_code 67 = .ok (.iload_n 3, 1) := by decide +kernel
theorem zd_Ref_wrong_68 : decode prog_13_method_44_code 68 = .ok (.iadd, 1) := by decide +kernel
theorem zd_Ref_wrong_69 : decode prog_13_method_44_code 69 = .ok (.iaload, 1) := by decide +kernel
theorem zd_Ref_wrong_70 : decode prog_13_method_44_code 70 = .ok (.ifCond .le 19, 3) := by decide +kernel
theorem zd_Ref_wrong_73 : decode prog_13_method_44_code 73 = .ok (.iload_n 3, 1) := by decide +kernel
theorem zd_Ref_wrong_74 : decode prog_13_method_44_code 74 = .ok (.aload_n 0, 1) := by decide +kernel
theorem zd_Ref_wrong_75 : decode prog_13_method_44_code 75 = .ok (.getfield 13, 3) := by decide +kernel
theorem zd_Ref_wrong_78 : decode prog_13_method_44_code 78 = .ok (.iload_n 2, 1) := by decide +kernel
theorem zd_Ref_wrong_79 : decode prog_13_method_44_code 79 = .ok (.iaload, 1) := by decide +kernel
theorem zd_Ref_wrong_80 : decode prog_13_method_44_code 80 = .ok (.if_icmp .eq 9, 3) := by decide +kernel
theorem zd_Ref_wrong_83 : decode prog_13_method_44_code 83 = .ok (.iload_n 1, 1) := by decide +kernel
theorem zd_Ref_wrong_84 : decode prog_13_method_44_code 84 = .ok (.iconst 1, 1) := by decide +kernel
theorem zd_Ref_wrong_85 : decode prog_13_method_44_code 85 = .ok (.iadd, 1) := by decide +kernel
theorem zd_Ref_wrong_86 : decode prog_13_method_44_code 86 = .ok (.goto 4, 3) := by decide +kernel
theorem zd_Ref_wrong_89 : decode prog_13_method_44_code 89 = .ok (.iload_n 1, 1) := by decide +kernel
theorem zd_Ref_wrong_90 : decode prog_13_method_44_code 90 = .ok (.istore_n 1, 1) := by decide +kernel
theorem zd_Ref_wrong_91 : decode prog_13_method_44_code 91 = .ok (.iinc 2 1, 3) := by decide +kernel
theorem zd_Ref_wrong_94 : decode prog_13_method_44_code 94 = .ok (.goto (-90), 3) := by decide +kernel
theorem zd_Ref_wrong_97 : decode prog_13_method_44_code 97 = .ok (.iload_n 1, 1) := by decide +kernel
theorem zd_Ref_wrong_98 : decode prog_13_method_44_code 98 = .ok (.ireturn, 1) := by decide +kernel
