def zm_Tree_init : zg_M := (⟨"SurrogateTree", "<init>", "()V"⟩, prog_1_method_1_code, 2, none)
theorem zd_Tree_init_0 : decode prog_1_method_1_code 0 = .ok (.aload_n 0, 1) := by decide +kernel
theorem zd_Tree_init_1 : decode prog_1_method_1_code 1 = .ok (.invokespecial 1, 3) := by decide +kernel
theorem zd_Tree_init_4 : decode prog_1_method_1_code 4 = .ok (.aload_n 0, 1) := by decide +kernel
theorem zd_Tree_init_5 : decode prog_1_method_1_code 5 = .ok (.new 7, 3) := by decide +kernel
theorem zd_Tree_init_8 : decode prog_1_method_1_code 8 = .ok (.dup, 1) := by decide +kernel
theorem zd_Tree_init_9 : decode prog_1_method_1_code 9 = .ok (.invokespecial 9, 3) := by decide +kernel
theorem zd_Tree_init_12 : decode prog_1_method_1_code 12 = .ok (.putfield 10, 3) := by decide +kernel
theorem zd_Tree_init_15 : decode prog_1_method_1_code 15 = .ok (.aload_n 0, 1) := by decide +kernel
theorem zd_Tree_init_16 : decode prog_1_method_1_code 16 = .ok (.new 16, 3) := by decide +kernel
theorem zd_Tree_init_19 : decode prog_1_method_1_code 19 = .ok (.dup, 1) := by decide +kernel
theorem zd_Tree_init_20 : decode prog_1_method_1_code 20 = .ok (.invokespecial 18, 3) := by decide +kernel
theorem zd_Tree_init_23 : decode prog_1_method_1_code 23 = .ok (.putfield 19, 3) := by decide +kernel
theorem zd_Tree_init_26 : decode prog_1_method_1_code 26 = .ok (.aload_n 0, 1) := by decide +kernel
theorem zd_Tree_init_27 : decode prog_1_method_1_code 27 = .ok (.bipush 32, 2) := by decide +kernel
theorem zd_Tree_init_29 : decode prog_1_method_1_code 29 = .ok (.anewarray 23, 3) := by decide +kernel
theorem zd_Tree_init_32 : decode prog_1_method_1_code 32 = .ok (.putfield 25, 3) := by decide +kernel
theorem zd_Tree_init_35 : decode prog_1_method_1_code 35 = .ok (.iconst 0, 1) := by decide +kernel
theorem zd_Tree_init_36 : decode prog_1_method_1_code 36 = .ok (.istore_n 1, 1) := by decide +kernel
theorem zd_Tree_init_37 : decode prog_1_method_1_code 37 = .ok (.iload_n 1, 1) := by decide +kernel
theorem zd_Tree_init_38 : decode prog_1_method_1_code 38 = .ok (.bipush 32, 2) := by decide +kernel
theorem zd_Tree_init_40 : decode prog_1_method_1_code 40 = .ok (.if_icmp .ge 22, 3) := by decide +kernel
theorem zd_Tree_init_43 : decode prog_1_method_1_code 43 = .ok (.aload_n 0, 1) := by decide +kernel
theorem zd_Tree_init_44 : decode prog_1_method_1_code 44 = .ok (.getfield 25, 3) := by decide +kernel
theorem zd_Tree_init_47 : decode prog_1_method_1_code 47 = .ok (.iload_n 1, 1) := by decide +kernel
theorem zd_Tree_init_48 : decode prog_1_method_1_code 48 = .ok (.new 23, 3) := by decide +kernel
theorem zd_Tree_init_51 : decode prog_1_method_1_code 51 = .ok (.dup, 1) := by decide +kernel
theorem zd_Tree_init_52 : decode prog_1_method_1_code 52 = .ok (.invokespecial 29, 3) := by decide +kernel
theorem zd_Tree_init_55 : decode prog_1_method_1_code 55 = .ok (.aastore, 1) := by decide +kernel
theorem zd_Tree_init_56 : decode prog_1_method_1_code 56 = .ok (.iinc 1 1, 3) := by decide +kernel
theorem zd_Tree_init_59 : decode prog_1_method_1_code 59 = .ok (.goto (-22), 3) := by decide +kernel
theorem zd_Tree_init_62 : decode prog_1_method_1_code 62 = .ok (.aload_n 0, 1) := by decide +kernel
theorem zd_Tree_init_63 : decode prog_1_method_1_code 63 = .ok (.new 30, 3) := by decide +kernel
theorem zd_Tree_init_66 : decode prog_1_method_1_code 66 = .ok (.dup, 1) := by decide +kernel
theorem zd_Tree_init_67 : decode prog_1_method_1_code 67 = .ok (.invokespecial 32, 3) := by decide +kernel
theorem zd_Tree_init_70 : decode prog_1_method_1_code 70 = .ok (.putfield 33, 3) := by decide +kernel
theorem zd_Tree_init_73 : decode prog_1_method_1_code 73 = .ok (.aload_n 0, 1) := by decide +kernel
theorem zd_Tree_init_74 : decode prog_1_method_1_code 74 = .ok (.new 30, 3) := by decide +kernel
theorem zd_Tree_init_77 : decode prog_1_method_1_code 77 = .ok (.dup, 1) := by decide +kernel
theorem zd_Tree_init_78 : decode prog_1_method_1_code 78 = .ok (.invokespecial 32, 3) := by decide +kernel
theorem zd_Tree_init_81 : decode prog_1_method_1_code 81 = .ok (.putfield 37, 3) := by decide +kernel
theorem zd_Tree_init_84 : decode prog_1_method_1_code 84 = .ok (.aload_n 0, 1) := by decide +kernel
theorem zd_Tree_init_85 : decode prog_1_method_1_code 85 = .ok (.new 40, 3) := by decide +kernel
theorem zd_Tree_init_88 : decode prog_1_method_1_code 88 = .ok (.dup, 1) := by decide +kernel
theorem zd_Tree_init_89 : decode prog_1_method_1_code 89 = .ok (.invokespecial 42, 3) := by decide +kernel
theorem zd_Tree_init_92 : decode prog_1_method_1_code 92 = .ok (.putfield 43, 3) := by decide +kernel
theorem zd_Tree_init_95 : decode prog_1_method_1_code 95 = .ok (.aload_n 0, 1) := by decide +kernel
theorem zd_Tree_init_96 : decode prog_1_method_1_code 96 = .ok (.new 47, 3) := by decide +kernel
theorem zd_Tree_init_99 : decode prog_1_method_1_code 99 = .ok (.dup, 1) := by decide +kernel
theorem zd_Tree_init_100 : decode prog_1_method_1_code 100 = .ok (.invokespecial 49, 3) := by decide +kernel
theorem zd_Tree_init_103 : decode prog_1_method_1_code 103 = .ok (.putfield 50, 3) := by decide +kernel
theorem zd_Tree_init_106 : decode prog_1_method_1_code 106 = .ok (.aload_n 0, 1) := by decide +kernel
theorem zd_Tree_init_107 : decode prog_1_method_1_code 107 = .ok (.new 54, 3) := by decide +kernel
theorem zd_Tree_init_110 : decode prog_1_method_1_code 110 = .ok (.dup, 1) := by decide +kernel
theorem zd_Tree_init_111 : decode prog_1_method_1_code 111 = .ok (.invokespecial 56, 3) := by decide +kernel
theorem zd_Tree_init_114 : decode prog_1_method_1_code 114 = .ok (.putfield 57, 3) := by decide +kernel
theorem zd_Tree_init_117 : decode prog_1_method_1_code 117 = .ok (.aload_n 0, 1) := by decide +kernel
theorem zd_Tree_init_118 : decode prog_1_method_1_code 118 = .ok (.iconst 3, 1) := by decide +kernel
theorem zd_Tree_init_119 : decode prog_1_method_1_code 119 = .ok (.newarray .int, 2) := by decide +kernel
theorem zd_Tree_init_121 : decode prog_1_method_1_code 121 = .ok (.putfield 61, 3) := by decide +kernel
theorem zd_Tree_init_124 : decode prog_1_method_1_code 124 = .ok (.aload_n 0, 1) := by decide +kernel
theorem zd_Tree_init_125 : decode prog_1_method_1_code 125 = .ok (.iconst 0, 1) := by decide +kernel
theorem zd_Tree_init_126 : decode prog_1_method_1_code 126 = .ok (.putfield 65, 3) := by decide +kernel
theorem zd_Tree_init_129 : decode prog_1_method_1_code 129 = .ok (.aload_n 0, 1) := by decide +kernel
theorem zd_Tree_init_130 : decode prog_1_method_1_code 130 = .ok (.iconst 4, 1) := by decide +kernel
theorem zd_Tree_init_131 : decode prog_1_method_1_code 131 = .ok (.putfield 69, 3) := by decide +kernel
theorem zd_Tree_init_134 : decode prog_1_method_1_code 134 = .ok (.aload_n 0, 1) := by decide +kernel
theorem zd_Tree_init_135 : decode prog_1_method_1_code 135 = .ok (.iconst 1, 1) := by decide +kernel
theorem zd_Tree_init_136 : decode prog_1_method_1_code 136 = .ok (.putfield 72, 3) := by decide +kernel
theorem zd_Tree_init_139 : decode prog_1_method_1_code 139 = .ok (.aload_n 0, 1) := by decide +kernel
theorem zd_Tree_init_140 : decode prog_1_method_1_code 140 = .ok (.invokevirtual 75, 3) := by decide +kernel
theorem zd_Tree_init_143 : decode prog_1_method_1_code 143 = .ok (.return_, 1) := by decide +kernel
def zm_SplitSearch_init : zg_M := (⟨"SurrogateTree$SplitSearch", "<init>", "()V"⟩, prog_8_method_1_code, 1, none)
theorem zd_SplitSearch_init_0 : decode prog_8_method_1_code 0 = .ok (.aload_n 0, 1) := by decide +kernel
theorem zd_SplitSearch_init_1 : decode prog_8_method_1_code 1 = .ok (.invokespecial 3, 3) := by decide +kernel
theorem zd_SplitSearch_init_4 : decode prog_8_method_1_code 4 = .ok (.aload_n 0, 1) := by decide +kernel
theorem zd_SplitSearch_init_5 : decode prog_8_method_1_code 5 = .ok (.new 9, 3) := by decide +kernel
theorem zd_SplitSearch_init_8 : decode prog_8_method_1_code 8 = .ok (.dup, 1) := by decide +kernel
theorem zd_SplitSearch_init_9 : decode prog_8_method_1_code 9 = .ok (.invokespecial 11, 3) := by decide +kernel
theorem zd_SplitSearch_init_12 : decode prog_8_method_1_code 12 = .ok (.putfield 12, 3) := by decide +kernel
theorem zd_SplitSearch_init_15 : decode prog_8_method_1_code 15 = .ok (.aload_n 0, 1) := by decide +kernel
theorem zd_SplitSearch_init_16 : decode prog_8_method_1_code 16 = .ok (.iconst 4, 1) := by decide +kernel
theorem zd_SplitSearch_init_17 : decode prog_8_method_1_code 17 = .ok (.newarray .int, 2) := by decide +kernel
theorem zd_SplitSearch_init_19 : decode prog_8_method_1_code 19 = .ok (.putfield 18, 3) := by decide +kernel
theorem zd_SplitSearch_init_22 : decode prog_8_method_1_code 22 = .ok (.aload_n 0, 1) := by decide +kernel
theorem zd_SplitSearch_init_23 : decode prog_8_method_1_code 23 = .ok (.iconst 4, 1) := by decide +kernel
theorem zd_SplitSearch_init_24 : decode prog_8_method_1_code 24 = .ok (.newarray .int, 2) := by decide +kernel
theorem zd_SplitSearch_init_26 : decode prog_8_method_1_code 26 = .ok (.putfield 22, 3) := by decide +kernel
theorem zd_SplitSearch_init_29 : decode prog_8_method_1_code 29 = .ok (.aload_n 0, 1) := by decide +kernel
theorem zd_SplitSearch_init_30 : decode prog_8_method_1_code 30 = .ok (.new 25, 3) := by decide +kernel
theorem zd_SplitSearch_init_33 : decode prog_8_method_1_code 33 = .ok (.dup, 1) := by decide +kernel
theorem zd_SplitSearch_init_34 : decode prog_8_method_1_code 34 = .ok (.invokespecial 27, 3) := by decide +kernel
theorem zd_SplitSearch_init_37 : decode prog_8_method_1_code 37 = .ok (.putfield 28, 3) := by decide +kernel
theorem zd_SplitSearch_init_40 : decode prog_8_method_1_code 40 = .ok (.return_, 1) := by decide +kernel
def zm_StandInSearch_init : zg_M := (⟨"SurrogateTree$StandInSearch", "<init>", "()V"⟩, prog_10_method_1_code, 1, none)
theorem zd_StandInSearch_init_0 : decode prog_10_method_1_code 0 = .ok (.aload_n 0, 1) := by decide +kernel
theorem zd_StandInSearch_init_1 : decode prog_10_method_1_code 1 = .ok (.invokespecial 3, 3) := by decide +kernel
theorem zd_StandInSearch_init_4 : decode prog_10_method_1_code 4 = .ok (.aload_n 0, 1) := by decide +kernel
theorem zd_StandInSearch_init_5 : decode prog_10_method_1_code 5 = .ok (.new 9, 3) := by decide +kernel
theorem zd_StandInSearch_init_8 : decode prog_10_method_1_code 8 = .ok (.dup, 1) := by decide +kernel
theorem zd_StandInSearch_init_9 : decode prog_10_method_1_code 9 = .ok (.invokespecial 11, 3) := by decide +kernel
theorem zd_StandInSearch_init_12 : decode prog_10_method_1_code 12 = .ok (.putfield 12, 3) := by decide +kernel
theorem zd_StandInSearch_init_15 : decode prog_10_method_1_code 15 = .ok (.aload_n 0, 1) := by decide +kernel
theorem zd_StandInSearch_init_16 : decode prog_10_method_1_code 16 = .ok (.new 18, 3) := by decide +kernel
theorem zd_StandInSearch_init_19 : decode prog_10_method_1_code 19 = .ok (.dup, 1) := by decide +kernel
theorem zd_StandInSearch_init_20 : decode prog_10_method_1_code 20 = .ok (.invokespecial 20, 3) := by decide +kernel
theorem zd_StandInSearch_init_23 : decode prog_10_method_1_code 23 = .ok (.putfield 21, 3) := by decide +kernel
theorem zd_StandInSearch_init_26 : decode prog_10_method_1_code 26 = .ok (.return_, 1) := by decide +kernel
def zm_Cutter_init : zg_M := (⟨"SurrogateTree$Cutter", "<init>", "()V"⟩, prog_3_method_1_code, 1, none)
theorem zd_Cutter_init_0 : decode prog_3_method_1_code 0 = .ok (.aload_n 0, 1) := by decide +kernel
theorem zd_Cutter_init_1 : decode prog_3_method_1_code 1 = .ok (.invokespecial 3, 3) := by decide +kernel
theorem zd_Cutter_init_4 : decode prog_3_method_1_code 4 = .ok (.aload_n 0, 1) := by decide +kernel
theorem zd_Cutter_init_5 : decode prog_3_method_1_code 5 = .ok (.new 9, 3) := by decide +kernel
theorem zd_Cutter_init_8 : decode prog_3_method_1_code 8 = .ok (.dup, 1) := by decide +kernel
theorem zd_Cutter_init_9 : decode prog_3_method_1_code 9 = .ok (.invokespecial 11, 3) := by decide +kernel
theorem zd_Cutter_init_12 : decode prog_3_method_1_code 12 = .ok (.putfield 12, 3) := by decide +kernel
theorem zd_Cutter_init_15 : decode prog_3_method_1_code 15 = .ok (.aload_n 0, 1) := by decide +kernel
theorem zd_Cutter_init_16 : decode prog_3_method_1_code 16 = .ok (.new 18, 3) := by decide +kernel
theorem zd_Cutter_init_19 : decode prog_3_method_1_code 19 = .ok (.dup, 1) := by decide +kernel
theorem zd_Cutter_init_20 : decode prog_3_method_1_code 20 = .ok (.invokespecial 20, 3) := by decide +kernel
theorem zd_Cutter_init_23 : decode prog_3_method_1_code 23 = .ok (.putfield 21, 3) := by decide +kernel
theorem zd_Cutter_init_26 : decode prog_3_method_1_code 26 = .ok (.aload_n 0, 1) := by decide +kernel
theorem zd_Cutter_init_27 : decode prog_3_method_1_code 27 = .ok (.new 9, 3) := by decide +kernel
theorem zd_Cutter_init_30 : decode prog_3_method_1_code 30 = .ok (.dup, 1) := by decide +kernel
theorem zd_Cutter_init_31 : decode prog_3_method_1_code 31 = .ok (.invokespecial 11, 3) := by decide +kernel
theorem zd_Cutter_init_34 : decode prog_3_method_1_code 34 = .ok (.putfield 25, 3) := by decide +kernel
theorem zd_Cutter_init_37 : decode prog_3_method_1_code 37 = .ok (.aload_n 0, 1) := by decide +kernel
theorem zd_Cutter_init_38 : decode prog_3_method_1_code 38 = .ok (.bipush 32, 2) := by decide +kernel
theorem zd_Cutter_init_40 : decode prog_3_method_1_code 40 = .ok (.newarray .int, 2) := by decide +kernel
theorem zd_Cutter_init_42 : decode prog_3_method_1_code 42 = .ok (.putfield 28, 3) := by decide +kernel
theorem zd_Cutter_init_45 : decode prog_3_method_1_code 45 = .ok (.aload_n 0, 1) := by decide +kernel
theorem zd_Cutter_init_46 : decode prog_3_method_1_code 46 = .ok (.bipush 32, 2) := by decide +kernel
theorem zd_Cutter_init_48 : decode prog_3_method_1_code 48 = .ok (.newarray .int, 2) := by decide +kernel
theorem zd_Cutter_init_50 : decode prog_3_method_1_code 50 = .ok (.putfield 32, 3) := by decide +kernel
theorem zd_Cutter_init_53 : decode prog_3_method_1_code 53 = .ok (.aload_n 0, 1) := by decide +kernel
theorem zd_Cutter_init_54 : decode prog_3_method_1_code 54 = .ok (.bipush 32, 2) := by decide +kernel
theorem zd_Cutter_init_56 : decode prog_3_method_1_code 56 = .ok (.newarray .int, 2) := by decide +kernel
theorem zd_Cutter_init_58 : decode prog_3_method_1_code 58 = .ok (.putfield 35, 3) := by decide +kernel
theorem zd_Cutter_init_61 : decode prog_3_method_1_code 61 = .ok (.return_, 1) := by decide +kernel
def zm_Tree_startAnew : zg_M := (⟨"SurrogateTree", "startAnew", "()V"⟩, prog_1_method_23_code, 1, none)
theorem zd_Tree_startAnew_0 : decode prog_1_method_23_code 0 = .ok (.aload_n 0, 1) := by decide +kernel
theorem zd_Tree_startAnew_1 : decode prog_1_method_23_code 1 = .ok (.getfield 33, 3) := by decide +kernel
theorem zd_Tree_startAnew_4 : decode prog_1_method_23_code 4 = .ok (.invokevirtual 211, 3) := by decide +kernel
theorem zd_Tree_startAnew_7 : decode prog_1_method_23_code 7 = .ok (.aload_n 0, 1) := by decide +kernel
theorem zd_Tree_startAnew_8 : decode prog_1_method_23_code 8 = .ok (.iconst 1, 1) := by decide +kernel
theorem zd_Tree_startAnew_9 : decode prog_1_method_23_code 9 = .ok (.aload_n 0, 1) := by decide +kernel
theorem zd_Tree_startAnew_10 : decode prog_1_method_23_code 10 = .ok (.getfield 10, 3) := by decide +kernel
theorem zd_Tree_startAnew_13 : decode prog_1_method_23_code 13 = .ok (.invokevirtual 100, 3) := by decide +kernel
theorem zd_Tree_startAnew_16 : decode prog_1_method_23_code 16 = .ok (.invokevirtual 212, 3) := by decide +kernel
theorem zd_Tree_startAnew_19 : decode prog_1_method_23_code 19 = .ok (.aload_n 0, 1) := by decide +kernel
theorem zd_Tree_startAnew_20 : decode prog_1_method_23_code 20 = .ok (.aload_n 0, 1) := by decide +kernel
theorem zd_Tree_startAnew_21 : decode prog_1_method_23_code 21 = .ok (.getfield 33, 3) := by decide +kernel
theorem zd_Tree_startAnew_24 : decode prog_1_method_23_code 24 = .ok (.putfield 122, 3) := by decide +kernel
theorem zd_Tree_startAnew_27 : decode prog_1_method_23_code 27 = .ok (.return_, 1) := by decide +kernel
def zm_Tree_openNode : zg_M := (⟨"SurrogateTree", "openNode", "(II)V"⟩, prog_1_method_24_code, 3, none)
theorem zd_Tree_openNode_0 : decode prog_1_method_24_code 0 = .ok (.aload_n 0, 1) := by decide +kernel
theorem zd_Tree_openNode_1 : decode prog_1_method_24_code 1 = .ok (.getfield 25, 3) := by decide +kernel
theorem zd_Tree_openNode_4 : decode prog_1_method_24_code 4 = .ok (.iload_n 1, 1) := by decide +kernel
theorem zd_Tree_openNode_5 : decode prog_1_method_24_code 5 = .ok (.aaload, 1) := by decide +kernel
theorem zd_Tree_openNode_6 : decode prog_1_method_24_code 6 = .ok (.aload_n 0, 1) := by decide +kernel
theorem zd_Tree_openNode_7 : decode prog_1_method_24_code 7 = .ok (.getfield 10, 3) := by decide +kernel
theorem zd_Tree_openNode_10 : decode prog_1_method_24_code 10 = .ok (.iload_n 2, 1) := by decide +kernel
theorem zd_Tree_openNode_11 : decode prog_1_method_24_code 11 = .ok (.invokevirtual 215, 3) := by decide +kernel
theorem zd_Tree_openNode_14 : decode prog_1_method_24_code 14 = .ok (.aload_n 0, 1) := by decide +kernel
theorem zd_Tree_openNode_15 : decode prog_1_method_24_code 15 = .ok (.getfield 33, 3) := by decide +kernel
theorem zd_Tree_openNode_18 : decode prog_1_method_24_code 18 = .ok (.getfield 219, 3) := by decide +kernel
theorem zd_Tree_openNode_21 : decode prog_1_method_24_code 21 = .ok (.iload_n 1, 1) := by decide +kernel
theorem zd_Tree_openNode_22 : decode prog_1_method_24_code 22 = .ok (.iconst 0, 1) := by decide +kernel
theorem zd_Tree_openNode_23 : decode prog_1_method_24_code 23 = .ok (.iastore, 1) := by decide +kernel
theorem zd_Tree_openNode_24 : decode prog_1_method_24_code 24 = .ok (.return_, 1) := by decide +kernel
def zm_Tree_addRow : zg_M := (⟨"SurrogateTree", "addRow", "(IIII)I"⟩, prog_1_method_2_code, 6, (some .int))
theorem zd_Tree_addRow_0 : decode prog_1_method_2_code 0 = .ok (.iload 4, 2) := by decide +kernel
theorem zd_Tree_addRow_2 : decode prog_1_method_2_code 2 = .ok (.invokestatic 78, 3) := by decide +kernel
theorem zd_Tree_addRow_5 : decode prog_1_method_2_code 5 = .ok (.ifCond .eq 15, 3) := by decide +kernel
theorem zd_Tree_addRow_8 : decode prog_1_method_2_code 8 = .ok (.aload_n 0, 1) := by decide +kernel
theorem zd_Tree_addRow_9 : decode prog_1_method_2_code 9 = .ok (.getfield 10, 3) := by decide +kernel
theorem zd_Tree_addRow_12 : decode prog_1_method_2_code 12 = .ok (.getfield 82, 3) := by decide +kernel
theorem zd_Tree_addRow_15 : decode prog_1_method_2_code 15 = .ok (.bipush 16, 2) := by decide +kernel
theorem zd_Tree_addRow_17 : decode prog_1_method_2_code 17 = .ok (.if_icmp .lt 5, 3) := by decide +kernel
theorem zd_Tree_addRow_20 : decode prog_1_method_2_code 20 = .ok (.iconst (-1), 1) := by decide +kernel
theorem zd_Tree_addRow_21 : decode prog_1_method_2_code 21 = .ok (.ireturn, 1) := by decide +kernel
theorem zd_Tree_addRow_22 : decode prog_1_method_2_code 22 = .ok (.aload_n 0, 1) := by decide +kernel
theorem zd_Tree_addRow_23 : decode prog_1_method_2_code 23 = .ok (.getfield 10, 3) := by decide +kernel
theorem zd_Tree_addRow_26 : decode prog_1_method_2_code 26 = .ok (.iload_n 1, 1) := by decide +kernel
theorem zd_Tree_addRow_27 : decode prog_1_method_2_code 27 = .ok (.iload_n 2, 1) := by decide +kernel
theorem zd_Tree_addRow_28 : decode prog_1_method_2_code 28 = .ok (.iload_n 3, 1) := by decide +kernel
theorem zd_Tree_addRow_29 : decode prog_1_method_2_code 29 = .ok (.iload 4, 2) := by decide +kernel
theorem zd_Tree_addRow_31 : decode prog_1_method_2_code 31 = .ok (.invokevirtual 85, 3) := by decide +kernel
theorem zd_Tree_addRow_34 : decode prog_1_method_2_code 34 = .ok (.istore 5, 2) := by decide +kernel
theorem zd_Tree_addRow_36 : decode prog_1_method_2_code 36 = .ok (.aload_n 0, 1) := by decide +kernel
theorem zd_Tree_addRow_37 : decode prog_1_method_2_code 37 = .ok (.getfield 10, 3) := by decide +kernel
theorem zd_Tree_addRow_40 : decode prog_1_method_2_code 40 = .ok (.iconst 1, 1) := by decide +kernel
theorem zd_Tree_addRow_41 : decode prog_1_method_2_code 41 = .ok (.invokevirtual 89, 3) := by decide +kernel
theorem zd_Tree_addRow_44 : decode prog_1_method_2_code 44 = .ok (.aload_n 0, 1) := by decide +kernel
theorem zd_Tree_addRow_45 : decode prog_1_method_2_code 45 = .ok (.getfield 19, 3) := by decide +kernel
theorem zd_Tree_addRow_48 : decode prog_1_method_2_code 48 = .ok (.invokevirtual 93, 3) := by decide +kernel
theorem zd_Tree_addRow_51 : decode prog_1_method_2_code 51 = .ok (.aload_n 0, 1) := by decide +kernel
theorem zd_Tree_addRow_52 : decode prog_1_method_2_code 52 = .ok (.invokevirtual 75, 3) := by decide +kernel
theorem zd_Tree_addRow_55 : decode prog_1_method_2_code 55 = .ok (.iload 5, 2) := by decide +kernel
theorem zd_Tree_addRow_57 : decode prog_1_method_2_code 57 = .ok (.ireturn, 1) := by decide +kernel
def zm_Tree_isClass : zg_M := (⟨"SurrogateTree", "isClass", "(I)Z"⟩, prog_1_method_21_code, 1, (some .boolean))
theorem zd_Tree_isClass_0 : decode prog_1_method_21_code 0 = .ok (.iload_n 0, 1) := by decide +kernel
theorem zd_Tree_isClass_1 : decode prog_1_method_21_code 1 = .ok (.ifCond .lt 12, 3) := by decide +kernel
theorem zd_Tree_isClass_4 : decode prog_1_method_21_code 4 = .ok (.iload_n 0, 1) := by decide +kernel
theorem zd_Tree_isClass_5 : decode prog_1_method_21_code 5 = .ok (.iconst 4, 1) := by decide +kernel
theorem zd_Tree_isClass_6 : decode prog_1_method_21_code 6 = .ok (.if_icmp .ge 7, 3) := by decide +kernel
theorem zd_Tree_isClass_9 : decode prog_1_method_21_code 9 = .ok (.iconst 1, 1) := by decide +kernel
theorem zd_Tree_isClass_10 : decode prog_1_method_21_code 10 = .ok (.goto 4, 3) := by decide +kernel
theorem zd_Tree_isClass_13 : decode prog_1_method_21_code 13 = .ok (.iconst 0, 1) := by decide +kernel
theorem zd_Tree_isClass_14 : decode prog_1_method_21_code 14 = .ok (.ireturn, 1) := by decide +kernel
def zm_Tree_begin : zg_M := (⟨"SurrogateTree", "begin", "(III)Z"⟩, prog_1_method_3_code, 4, (some .boolean))
theorem zd_Tree_begin_0 : decode prog_1_method_3_code 0 = .ok (.iload_n 1, 1) := by decide +kernel
theorem zd_Tree_begin_1 : decode prog_1_method_3_code 1 = .ok (.ifCond .lt 17, 3) := by decide +kernel
theorem zd_Tree_begin_4 : decode prog_1_method_3_code 4 = .ok (.iload_n 1, 1) := by decide +kernel
theorem zd_Tree_begin_5 : decode prog_1_method_3_code 5 = .ok (.iconst 3, 1) := by decide +kernel
theorem zd_Tree_begin_6 : decode prog_1_method_3_code 6 = .ok (.if_icmp .ge 12, 3) := by decide +kernel
theorem zd_Tree_begin_9 : decode prog_1_method_3_code 9 = .ok (.iload_n 2, 1) := by decide +kernel
theorem zd_Tree_begin_10 : decode prog_1_method_3_code 10 = .ok (.ifCond .lt 8, 3) := by decide +kernel
theorem zd_Tree_begin_13 : decode prog_1_method_3_code 13 = .ok (.iload_n 2, 1) := by decide +kernel
theorem zd_Tree_begin_14 : decode prog_1_method_3_code 14 = .ok (.iconst 4, 1) := by decide +kernel
theorem zd_Tree_begin_15 : decode prog_1_method_3_code 15 = .ok (.if_icmp .le 5, 3) := by decide +kernel
theorem zd_Tree_begin_18 : decode prog_1_method_3_code 18 = .ok (.iconst 0, 1) := by decide +kernel
theorem zd_Tree_begin_19 : decode prog_1_method_3_code 19 = .ok (.ireturn, 1) := by decide +kernel
theorem zd_Tree_begin_20 : decode prog_1_method_3_code 20 = .ok (.iload_n 3, 1) := by decide +kernel
theorem zd_Tree_begin_21 : decode prog_1_method_3_code 21 = .ok (.iconst 1, 1) := by decide +kernel
theorem zd_Tree_begin_22 : decode prog_1_method_3_code 22 = .ok (.if_icmp .lt 9, 3) := by decide +kernel
theorem zd_Tree_begin_25 : decode prog_1_method_3_code 25 = .ok (.iload_n 3, 1) := by decide +kernel
theorem zd_Tree_begin_26 : decode prog_1_method_3_code 26 = .ok (.bipush 8, 2) := by decide +kernel
theorem zd_Tree_begin_28 : decode prog_1_method_3_code 28 = .ok (.if_icmp .le 5, 3) := by decide +kernel
theorem zd_Tree_begin_31 : decode prog_1_method_3_code 31 = .ok (.iconst 0, 1) := by decide +kernel
theorem zd_Tree_begin_32 : decode prog_1_method_3_code 32 = .ok (.ireturn, 1) := by decide +kernel
theorem zd_Tree_begin_33 : decode prog_1_method_3_code 33 = .ok (.aload_n 0, 1) := by decide +kernel
theorem zd_Tree_begin_34 : decode prog_1_method_3_code 34 = .ok (.iload_n 1, 1) := by decide +kernel
theorem zd_Tree_begin_35 : decode prog_1_method_3_code 35 = .ok (.putfield 65, 3) := by decide +kernel
theorem zd_Tree_begin_38 : decode prog_1_method_3_code 38 = .ok (.aload_n 0, 1) := by decide +kernel
theorem zd_Tree_begin_39 : decode prog_1_method_3_code 39 = .ok (.iload_n 2, 1) := by decide +kernel
theorem zd_Tree_begin_40 : decode prog_1_method_3_code 40 = .ok (.putfield 69, 3) := by decide +kernel
theorem zd_Tree_begin_43 : decode prog_1_method_3_code 43 = .ok (.aload_n 0, 1) := by decide +kernel
theorem zd_Tree_begin_44 : decode prog_1_method_3_code 44 = .ok (.iload_n 3, 1) := by decide +kernel
theorem zd_Tree_begin_45 : decode prog_1_method_3_code 45 = .ok (.putfield 72, 3) := by decide +kernel
theorem zd_Tree_begin_48 : decode prog_1_method_3_code 48 = .ok (.aload_n 0, 1) := by decide +kernel
theorem zd_Tree_begin_49 : decode prog_1_method_3_code 49 = .ok (.invokevirtual 75, 3) := by decide +kernel
theorem zd_Tree_begin_52 : decode prog_1_method_3_code 52 = .ok (.iconst 1, 1) := by decide +kernel
theorem zd_Tree_begin_53 : decode prog_1_method_3_code 53 = .ok (.ireturn, 1) := by decide +kernel
def zm_Tree_bag : zg_M := (⟨"SurrogateTree", "bag", "(J)I"⟩, prog_1_method_4_code, 3, (some .int))
theorem zd_Tree_bag_0 : decode prog_1_method_4_code 0 = .ok (.aload_n 0, 1) := by decide +kernel
theorem zd_Tree_bag_1 : decode prog_1_method_4_code 1 = .ok (.getfield 10, 3) := by decide +kernel
theorem zd_Tree_bag_4 : decode prog_1_method_4_code 4 = .ok (.getfield 82, 3) := by decide +kernel
theorem zd_Tree_bag_7 : decode prog_1_method_4_code 7 = .ok (.ifCond .ne 5, 3) := by decide +kernel
theorem zd_Tree_bag_10 : decode prog_1_method_4_code 10 = .ok (.iconst (-1), 1) := by decide +kernel
theorem zd_Tree_bag_11 : decode prog_1_method_4_code 11 = .ok (.ireturn, 1) := by decide +kernel
theorem zd_Tree_bag_12 : decode prog_1_method_4_code 12 = .ok (.aload_n 0, 1) := by decide +kernel
theorem zd_Tree_bag_13 : decode prog_1_method_4_code 13 = .ok (.getfield 10, 3) := by decide +kernel
theorem zd_Tree_bag_16 : decode prog_1_method_4_code 16 = .ok (.lload_n 1, 1) := by decide +kernel
theorem zd_Tree_bag_17 : decode prog_1_method_4_code 17 = .ok (.invokevirtual 96, 3) := by decide +kernel
theorem zd_Tree_bag_20 : decode prog_1_method_4_code 20 = .ok (.aload_n 0, 1) := by decide +kernel
theorem zd_Tree_bag_21 : decode prog_1_method_4_code 21 = .ok (.invokevirtual 75, 3) := by decide +kernel
theorem zd_Tree_bag_24 : decode prog_1_method_4_code 24 = .ok (.aload_n 0, 1) := by decide +kernel
theorem zd_Tree_bag_25 : decode prog_1_method_4_code 25 = .ok (.getfield 10, 3) := by decide +kernel
theorem zd_Tree_bag_28 : decode prog_1_method_4_code 28 = .ok (.getfield 82, 3) := by decide +kernel
theorem zd_Tree_bag_31 : decode prog_1_method_4_code 31 = .ok (.aload_n 0, 1) := by decide +kernel
theorem zd_Tree_bag_32 : decode prog_1_method_4_code 32 = .ok (.getfield 10, 3) := by decide +kernel
theorem zd_Tree_bag_35 : decode prog_1_method_4_code 35 = .ok (.invokevirtual 100, 3) := by decide +kernel
theorem zd_Tree_bag_38 : decode prog_1_method_4_code 38 = .ok (.invokestatic 104, 3) := by decide +kernel
theorem zd_Tree_bag_41 : decode prog_1_method_4_code 41 = .ok (.isub, 1) := by decide +kernel
theorem zd_Tree_bag_42 : decode prog_1_method_4_code 42 = .ok (.ireturn, 1) := by decide +kernel
def zm_Integer_bitCount : zg_M := (⟨"java/lang/Integer", "bitCount", "(I)I"⟩, prog_14_method_49_code, 1, (some .int))
theorem zd_Integer_bitCount_0 : decode prog_14_method_49_code 0 = .ok (.iload_n 0, 1) := by decide +kernel
theorem zd_Integer_bitCount_1 : decode prog_14_method_49_code 1 = .ok (.iload_n 0, 1) := by decide +kernel
theorem zd_Integer_bitCount_2 : decode prog_14_method_49_code 2 = .ok (.iconst 1, 1) := by decide +kernel
theorem zd_Integer_bitCount_3 : decode prog_14_method_49_code 3 = .ok (.iushr, 1) := by decide +kernel
theorem zd_Integer_bitCount_4 : decode prog_14_method_49_code 4 = .ok (.ldc_w 265, 3) := by decide +kernel
theorem zd_Integer_bitCount_7 : decode prog_14_method_49_code 7 = .ok (.iand, 1) := by decide +kernel
theorem zd_Integer_bitCount_8 : decode prog_14_method_49_code 8 = .ok (.isub, 1) := by decide +kernel
theorem zd_Integer_bitCount_9 : decode prog_14_method_49_code 9 = .ok (.istore_n 0, 1) := by decide +kernel
theorem zd_Integer_bitCount_10 : decode prog_14_method_49_code 10 = .ok (.iload_n 0, 1) := by decide +kernel
theorem zd_Integer_bitCount_11 : decode prog_14_method_49_code 11 = .ok (.ldc_w 266, 3) := by decide +kernel
theorem zd_Integer_bitCount_14 : decode prog_14_method_49_code 14 = .ok (.iand, 1) := by decide +kernel
theorem zd_Integer_bitCount_15 : decode prog_14_method_49_code 15 = .ok (.iload_n 0, 1) := by decide +kernel
theorem zd_Integer_bitCount_16 : decode prog_14_method_49_code 16 = .ok (.iconst 2, 1) := by decide +kernel
theorem zd_Integer_bitCount_17 : decode prog_14_method_49_code 17 = .ok (.iushr, 1) := by decide +kernel
theorem zd_Integer_bitCount_18 : decode prog_14_method_49_code 18 = .ok (.ldc_w 266, 3) := by decide +kernel
theorem zd_Integer_bitCount_21 : decode prog_14_method_49_code 21 = .ok (.iand, 1) := by decide +kernel
theorem zd_Integer_bitCount_22 : decode prog_14_method_49_code 22 = .ok (.iadd, 1) := by decide +kernel
theorem zd_Integer_bitCount_23 : decode prog_14_method_49_code 23 = .ok (.istore_n 0, 1) := by decide +kernel
theorem zd_Integer_bitCount_24 : decode prog_14_method_49_code 24 = .ok (.iload_n 0, 1) := by decide +kernel
theorem zd_Integer_bitCount_25 : decode prog_14_method_49_code 25 = .ok (.iload_n 0, 1) := by decide +kernel
theorem zd_Integer_bitCount_26 : decode prog_14_method_49_code 26 = .ok (.iconst 4, 1) := by decide +kernel
theorem zd_Integer_bitCount_27 : decode prog_14_method_49_code 27 = .ok (.iushr, 1) := by decide +kernel
theorem zd_Integer_bitCount_28 : decode prog_14_method_49_code 28 = .ok (.iadd, 1) := by decide +kernel
theorem zd_Integer_bitCount_29 : decode prog_14_method_49_code 29 = .ok (.ldc_w 267, 3) := by decide +kernel
theorem zd_Integer_bitCount_32 : decode prog_14_method_49_code 32 = .ok (.iand, 1) := by decide +kernel
theorem zd_Integer_bitCount_33 : decode prog_14_method_49_code 33 = .ok (.istore_n 0, 1) := by decide +kernel
theorem zd_Integer_bitCount_34 : decode prog_14_method_49_code 34 = .ok (.iload_n 0, 1) := by decide +kernel
theorem zd_Integer_bitCount_35 : decode prog_14_method_49_code 35 = .ok (.iload_n 0, 1) := by decide +kernel
theorem zd_Integer_bitCount_36 : decode prog_14_method_49_code 36 = .ok (.bipush 8, 2) := by decide +kernel
theorem zd_Integer_bitCount_38 : decode prog_14_method_49_code 38 = .ok (.iushr, 1) := by decide +kernel
theorem zd_Integer_bitCount_39 : decode prog_14_method_49_code 39 = .ok (.iadd, 1) := by decide +kernel
theorem zd_Integer_bitCount_40 : decode prog_14_method_49_code 40 = .ok (.istore_n 0, 1) := by decide +kernel
theorem zd_Integer_bitCount_41 : decode prog_14_method_49_code 41 = .ok (.iload_n 0, 1) := by decide +kernel
theorem zd_Integer_bitCount_42 : decode prog_14_method_49_code 42 = .ok (.iload_n 0, 1) := by decide +kernel
theorem zd_Integer_bitCount_43 : decode prog_14_method_49_code 43 = .ok (.bipush 16, 2) := by decide +kernel
theorem zd_Integer_bitCount_45 : decode prog_14_method_49_code 45 = .ok (.iushr, 1) := by decide +kernel
theorem zd_Integer_bitCount_46 : decode prog_14_method_49_code 46 = .ok (.iadd, 1) := by decide +kernel
theorem zd_Integer_bitCount_47 : decode prog_14_method_49_code 47 = .ok (.istore_n 0, 1) := by decide +kernel
theorem zd_Integer_bitCount_48 : decode prog_14_method_49_code 48 = .ok (.iload_n 0, 1) := by decide +kernel
theorem zd_Integer_bitCount_49 : decode prog_14_method_49_code 49 = .ok (.bipush 63, 2) := by decide +kernel
theorem zd_Integer_bitCount_51 : decode prog_14_method_49_code 51 = .ok (.iand, 1) := by decide +kernel
theorem zd_Integer_bitCount_52 : decode prog_14_method_49_code 52 = .ok (.ireturn, 1) := by decide +kernel
def zm_Tree_even : zg_M := (⟨"SurrogateTree", "even", "()V"⟩, prog_1_method_5_code, 1, none)
theorem zd_Tree_even_0 : decode prog_1_method_5_code 0 = .ok (.aload_n 0, 1) := by decide +kernel
theorem zd_Tree_even_1 : decode prog_1_method_5_code 1 = .ok (.getfield 10, 3) := by decide +kernel
theorem zd_Tree_even_4 : decode prog_1_method_5_code 4 = .ok (.iconst 1, 1) := by decide +kernel
theorem zd_Tree_even_5 : decode prog_1_method_5_code 5 = .ok (.invokevirtual 89, 3) := by decide +kernel
theorem zd_Tree_even_8 : decode prog_1_method_5_code 8 = .ok (.aload_n 0, 1) := by decide +kernel
theorem zd_Tree_even_9 : decode prog_1_method_5_code 9 = .ok (.invokevirtual 75, 3) := by decide +kernel
theorem zd_Tree_even_12 : decode prog_1_method_5_code 12 = .ok (.return_, 1) := by decide +kernel
def zm_Tree_weight : zg_M := (⟨"SurrogateTree", "weight", "(I)I"⟩, prog_1_method_6_code, 2, (some .int))
theorem zd_Tree_weight_0 : decode prog_1_method_6_code 0 = .ok (.aload_n 0, 1) := by decide +kernel
theorem zd_Tree_weight_1 : decode prog_1_method_6_code 1 = .ok (.getfield 10, 3) := by decide +kernel
theorem zd_Tree_weight_4 : decode prog_1_method_6_code 4 = .ok (.iload_n 1, 1) := by decide +kernel
theorem zd_Tree_weight_5 : decode prog_1_method_6_code 5 = .ok (.invokevirtual 110, 3) := by decide +kernel
theorem zd_Tree_weight_8 : decode prog_1_method_6_code 8 = .ok (.ifCond .eq 15, 3) := by decide +kernel
theorem zd_Tree_weight_11 : decode prog_1_method_6_code 11 = .ok (.aload_n 0, 1) := by decide +kernel
theorem zd_Tree_weight_12 : decode prog_1_method_6_code 12 = .ok (.getfield 10, 3) := by decide +kernel
theorem zd_Tree_weight_15 : decode prog_1_method_6_code 15 = .ok (.getfield 113, 3) := by decide +kernel
theorem zd_Tree_weight_18 : decode prog_1_method_6_code 18 = .ok (.iload_n 1, 1) := by decide +kernel
theorem zd_Tree_weight_19 : decode prog_1_method_6_code 19 = .ok (.iaload, 1) := by decide +kernel
theorem zd_Tree_weight_20 : decode prog_1_method_6_code 20 = .ok (.goto 4, 3) := by decide +kernel
theorem zd_Tree_weight_23 : decode prog_1_method_6_code 23 = .ok (.iconst (-1), 1) := by decide +kernel
theorem zd_Tree_weight_24 : decode prog_1_method_6_code 24 = .ok (.ireturn, 1) := by decide +kernel
def zm_Tree_grow : zg_M := (⟨"SurrogateTree", "grow", "(I)I"⟩, prog_1_method_7_code, 5, (some .int))
theorem zd_Tree_grow_0 : decode prog_1_method_7_code 0 = .ok (.iload_n 1, 1) := by decide +kernel
theorem zd_Tree_grow_1 : decode prog_1_method_7_code 1 = .ok (.iconst 1, 1) := by decide +kernel
theorem zd_Tree_grow_2 : decode prog_1_method_7_code 2 = .ok (.if_icmp .lt 8, 3) := by decide +kernel
theorem zd_Tree_grow_5 : decode prog_1_method_7_code 5 = .ok (.iload_n 1, 1) := by decide +kernel
theorem zd_Tree_grow_6 : decode prog_1_method_7_code 6 = .ok (.iconst 3, 1) := by decide +kernel
theorem zd_Tree_grow_7 : decode prog_1_method_7_code 7 = .ok (.if_icmp .le 5, 3) := by decide +kernel
theorem zd_Tree_grow_10 : decode prog_1_method_7_code 10 = .ok (.iconst (-1), 1) := by decide +kernel
theorem zd_Tree_grow_11 : decode prog_1_method_7_code 11 = .ok (.ireturn, 1) := by decide +kernel
theorem zd_Tree_grow_12 : decode prog_1_method_7_code 12 = .ok (.iconst 0, 1) := by decide +kernel
theorem zd_Tree_grow_13 : decode prog_1_method_7_code 13 = .ok (.istore_n 2, 1) := by decide +kernel
theorem zd_Tree_grow_14 : decode prog_1_method_7_code 14 = .ok (.iconst 0, 1) := by decide +kernel
theorem zd_Tree_grow_15 : decode prog_1_method_7_code 15 = .ok (.istore_n 3, 1) := by decide +kernel
theorem zd_Tree_grow_16 : decode prog_1_method_7_code 16 = .ok (.iload_n 3, 1) := by decide +kernel
theorem zd_Tree_grow_17 : decode prog_1_method_7_code 17 = .ok (.iload_n 1, 1) := by decide +kernel
theorem zd_Tree_grow_18 : decode prog_1_method_7_code 18 = .ok (.if_icmp .ge 32, 3) := by decide +kernel
theorem zd_Tree_grow_21 : decode prog_1_method_7_code 21 = .ok (.aload_n 0, 1) := by decide +kernel
theorem zd_Tree_grow_22 : decode prog_1_method_7_code 22 = .ok (.getfield 33, 3) := by decide +kernel
theorem zd_Tree_grow_25 : decode prog_1_method_7_code 25 = .ok (.invokevirtual 116, 3) := by decide +kernel
theorem zd_Tree_grow_28 : decode prog_1_method_7_code 28 = .ok (.istore 4, 2) := by decide +kernel
theorem zd_Tree_grow_30 : decode prog_1_method_7_code 30 = .ok (.iload 4, 2) := by decide +kernel
theorem zd_Tree_grow_32 : decode prog_1_method_7_code 32 = .ok (.ifCond .eq 12, 3) := by decide +kernel
theorem zd_Tree_grow_35 : decode prog_1_method_7_code 35 = .ok (.aload_n 0, 1) := by decide +kernel
theorem zd_Tree_grow_36 : decode prog_1_method_7_code 36 = .ok (.iload 4, 2) := by decide +kernel
theorem zd_Tree_grow_38 : decode prog_1_method_7_code 38 = .ok (.invokevirtual 119, 3) := by decide +kernel
theorem zd_Tree_grow_41 : decode prog_1_method_7_code 41 = .ok (.iinc 2 1, 3) := by decide +kernel
theorem zd_Tree_grow_44 : decode prog_1_method_7_code 44 = .ok (.iinc 3 1, 3) := by decide +kernel
theorem zd_Tree_grow_47 : decode prog_1_method_7_code 47 = .ok (.goto (-31), 3) := by decide +kernel
theorem zd_Tree_grow_50 : decode prog_1_method_7_code 50 = .ok (.iload_n 2, 1) := by decide +kernel
theorem zd_Tree_grow_51 : decode prog_1_method_7_code 51 = .ok (.ireturn, 1) := by decide +kernel
def zm_Tree_makeTurn : zg_M := (⟨"SurrogateTree", "makeTurn", "(I)V"⟩, prog_1_method_25_code, 5, none)
theorem zd_Tree_makeTurn_0 : decode prog_1_method_25_code 0 = .ok (.iload_n 1, 1) := by decide +kernel
theorem zd_Tree_makeTurn_1 : decode prog_1_method_25_code 1 = .ok (.iconst 1, 1) := by decide +kernel
theorem zd_Tree_makeTurn_2 : decode prog_1_method_25_code 2 = .ok (.aload_n 0, 1) := by decide +kernel
theorem zd_Tree_makeTurn_3 : decode prog_1_method_25_code 3 = .ok (.getfield 69, 3) := by decide +kernel
theorem zd_Tree_makeTurn_6 : decode prog_1_method_25_code 6 = .ok (.ishl, 1) := by decide +kernel
theorem zd_Tree_makeTurn_7 : decode prog_1_method_25_code 7 = .ok (.if_icmp .lt 7, 3) := by decide +kernel
theorem zd_Tree_makeTurn_10 : decode prog_1_method_25_code 10 = .ok (.iconst 1, 1) := by decide +kernel
theorem zd_Tree_makeTurn_11 : decode prog_1_method_25_code 11 = .ok (.goto 4, 3) := by decide +kernel
theorem zd_Tree_makeTurn_14 : decode prog_1_method_25_code 14 = .ok (.iconst 0, 1) := by decide +kernel
theorem zd_Tree_makeTurn_15 : decode prog_1_method_25_code 15 = .ok (.istore_n 2, 1) := by decide +kernel
theorem zd_Tree_makeTurn_16 : decode prog_1_method_25_code 16 = .ok (.aload_n 0, 1) := by decide +kernel
theorem zd_Tree_makeTurn_17 : decode prog_1_method_25_code 17 = .ok (.getfield 25, 3) := by decide +kernel
theorem zd_Tree_makeTurn_20 : decode prog_1_method_25_code 20 = .ok (.iload_n 1, 1) := by decide +kernel
theorem zd_Tree_makeTurn_21 : decode prog_1_method_25_code 21 = .ok (.aaload, 1) := by decide +kernel
theorem zd_Tree_makeTurn_22 : decode prog_1_method_25_code 22 = .ok (.astore_n 3, 1) := by decide +kernel
theorem zd_Tree_makeTurn_23 : decode prog_1_method_25_code 23 = .ok (.iload_n 2, 1) := by decide +kernel
theorem zd_Tree_makeTurn_24 : decode prog_1_method_25_code 24 = .ok (.ifCond .ne 26, 3) := by decide +kernel
theorem zd_Tree_makeTurn_27 : decode prog_1_method_25_code 27 = .ok (.aload_n 0, 1) := by decide +kernel
theorem zd_Tree_makeTurn_28 : decode prog_1_method_25_code 28 = .ok (.getfield 43, 3) := by decide +kernel
theorem zd_Tree_makeTurn_31 : decode prog_1_method_25_code 31 = .ok (.aload_n 0, 1) := by decide +kernel
theorem zd_Tree_makeTurn_32 : decode prog_1_method_25_code 32 = .ok (.getfield 10, 3) := by decide +kernel
theorem zd_Tree_makeTurn_35 : decode prog_1_method_25_code 35 = .ok (.aload_n 3, 1) := by decide +kernel
theorem zd_Tree_makeTurn_36 : decode prog_1_method_25_code 36 = .ok (.aload_n 0, 1) := by decide +kernel
theorem zd_Tree_makeTurn_37 : decode prog_1_method_25_code 37 = .ok (.getfield 65, 3) := by decide +kernel
theorem zd_Tree_makeTurn_40 : decode prog_1_method_25_code 40 = .ok (.aload_n 0, 1) := by decide +kernel
theorem zd_Tree_makeTurn_41 : decode prog_1_method_25_code 41 = .ok (.getfield 72, 3) := by decide +kernel
theorem zd_Tree_makeTurn_44 : decode prog_1_method_25_code 44 = .ok (.invokevirtual 222, 3) := by decide +kernel
theorem zd_Tree_makeTurn_47 : decode prog_1_method_25_code 47 = .ok (.ifCond .ne 14, 3) := by decide +kernel
theorem zd_Tree_makeTurn_50 : decode prog_1_method_25_code 50 = .ok (.aload_n 0, 1) := by decide +kernel
theorem zd_Tree_makeTurn_51 : decode prog_1_method_25_code 51 = .ok (.getfield 33, 3) := by decide +kernel
theorem zd_Tree_makeTurn_54 : decode prog_1_method_25_code 54 = .ok (.getfield 219, 3) := by decide +kernel
theorem zd_Tree_makeTurn_57 : decode prog_1_method_25_code 57 = .ok (.iload_n 1, 1) := by decide +kernel
theorem zd_Tree_makeTurn_58 : decode prog_1_method_25_code 58 = .ok (.iconst 1, 1) := by decide +kernel
theorem zd_Tree_makeTurn_59 : decode prog_1_method_25_code 59 = .ok (.iastore, 1) := by decide +kernel
theorem zd_Tree_makeTurn_60 : decode prog_1_method_25_code 60 = .ok (.return_, 1) := by decide +kernel
theorem zd_Tree_makeTurn_61 : decode prog_1_method_25_code 61 = .ok (.aload_n 0, 1) := by decide +kernel
theorem zd_Tree_makeTurn_62 : decode prog_1_method_25_code 62 = .ok (.getfield 50, 3) := by decide +kernel
theorem zd_Tree_makeTurn_65 : decode prog_1_method_25_code 65 = .ok (.aload_n 0, 1) := by decide +kernel
theorem zd_Tree_makeTurn_66 : decode prog_1_method_25_code 66 = .ok (.getfield 10, 3) := by decide +kernel
theorem zd_Tree_makeTurn_69 : decode prog_1_method_25_code 69 = .ok (.aload_n 3, 1) := by decide +kernel
theorem zd_Tree_makeTurn_70 : decode prog_1_method_25_code 70 = .ok (.invokevirtual 226, 3) := by decide +kernel
theorem zd_Tree_makeTurn_73 : decode prog_1_method_25_code 73 = .ok (.aload_n 0, 1) := by decide +kernel
theorem zd_Tree_makeTurn_74 : decode prog_1_method_25_code 74 = .ok (.getfield 33, 3) := by decide +kernel
theorem zd_Tree_makeTurn_77 : decode prog_1_method_25_code 77 = .ok (.getfield 219, 3) := by decide +kernel
theorem zd_Tree_makeTurn_80 : decode prog_1_method_25_code 80 = .ok (.iload_n 1, 1) := by decide +kernel
theorem zd_Tree_makeTurn_81 : decode prog_1_method_25_code 81 = .ok (.iconst 2, 1) := by decide +kernel
theorem zd_Tree_makeTurn_82 : decode prog_1_method_25_code 82 = .ok (.iastore, 1) := by decide +kernel
theorem zd_Tree_makeTurn_83 : decode prog_1_method_25_code 83 = .ok (.aload_n 3, 1) := by decide +kernel
theorem zd_Tree_makeTurn_84 : decode prog_1_method_25_code 84 = .ok (.aload_n 0, 1) := by decide +kernel
theorem zd_Tree_makeTurn_85 : decode prog_1_method_25_code 85 = .ok (.getfield 10, 3) := by decide +kernel
theorem zd_Tree_makeTurn_88 : decode prog_1_method_25_code 88 = .ok (.invokevirtual 230, 3) := by decide +kernel
theorem zd_Tree_makeTurn_91 : decode prog_1_method_25_code 91 = .ok (.istore 4, 2) := by decide +kernel
theorem zd_Tree_makeTurn_93 : decode prog_1_method_25_code 93 = .ok (.aload_n 0, 1) := by decide +kernel
theorem zd_Tree_makeTurn_94 : decode prog_1_method_25_code 94 = .ok (.iconst 2, 1) := by decide +kernel
theorem zd_Tree_makeTurn_95 : decode prog_1_method_25_code 95 = .ok (.iload_n 1, 1) := by decide +kernel
theorem zd_Tree_makeTurn_96 : decode prog_1_method_25_code 96 = .ok (.imul, 1) := by decide +kernel
theorem zd_Tree_makeTurn_97 : decode prog_1_method_25_code 97 = .ok (.iload 4, 2) := by decide +kernel
theorem zd_Tree_makeTurn_99 : decode prog_1_method_25_code 99 = .ok (.invokevirtual 212, 3) := by decide +kernel
theorem zd_Tree_makeTurn_102 : decode prog_1_method_25_code 102 = .ok (.aload_n 0, 1) := by decide +kernel
theorem zd_Tree_makeTurn_103 : decode prog_1_method_25_code 103 = .ok (.iconst 2, 1) := by decide +kernel
theorem zd_Tree_makeTurn_104 : decode prog_1_method_25_code 104 = .ok (.iload_n 1, 1) := by decide +kernel
theorem zd_Tree_makeTurn_105 : decode prog_1_method_25_code 105 = .ok (.imul, 1) := by decide +kernel
theorem zd_Tree_makeTurn_106 : decode prog_1_method_25_code 106 = .ok (.iconst 1, 1) := by decide +kernel
theorem zd_Tree_makeTurn_107 : decode prog_1_method_25_code 107 = .ok (.iadd, 1) := by decide +kernel
theorem zd_Tree_makeTurn_108 : decode prog_1_method_25_code 108 = .ok (.aload_n 3, 1) := by decide +kernel
theorem zd_Tree_makeTurn_109 : decode prog_1_method_25_code 109 = .ok (.getfield 162, 3) := by decide +kernel
theorem zd_Tree_makeTurn_112 : decode prog_1_method_25_code 112 = .ok (.iload 4, 2) := by decide +kernel
theorem zd_Tree_makeTurn_114 : decode prog_1_method_25_code 114 = .ok (.iconst (-1), 1) := by decide +kernel
theorem zd_Tree_makeTurn_115 : decode prog_1_method_25_code 115 = .ok (.ixor, 1) := by decide +kernel
theorem zd_Tree_makeTurn_116 : decode prog_1_method_25_code 116 = .ok (.iand, 1) := by decide +kernel
theorem zd_Tree_makeTurn_117 : decode prog_1_method_25_code 117 = .ok (.invokevirtual 212, 3) := by decide +kernel
theorem zd_Tree_makeTurn_120 : decode prog_1_method_25_code 120 = .ok (.return_, 1) := by decide +kernel
def zm_SplitSearch_findBest : zg_M := (⟨"SurrogateTree$SplitSearch", "findBest", "(LSurrogateTree$Table;LSurrogateTree$Node;II)Z"⟩, prog_8_method_2_code, 8, (some .boolean))
theorem zd_SplitSearch_findBest_0 : decode prog_8_method_2_code 0 = .ok (.aload_n 2, 1) := by decide +kernel
theorem zd_SplitSearch_findBest_1 : decode prog_8_method_2_code 1 = .ok (.getfield 32, 3) := by decide +kernel
theorem zd_SplitSearch_findBest_4 : decode prog_8_method_2_code 4 = .ok (.lconst 0, 1) := by decide +kernel
theorem zd_SplitSearch_findBest_5 : decode prog_8_method_2_code 5 = .ok (.lconst 1, 1) := by decide +kernel
theorem zd_SplitSearch_findBest_6 : decode prog_8_method_2_code 6 = .ok (.invokevirtual 37, 3) := by decide +kernel
theorem zd_SplitSearch_findBest_9 : decode prog_8_method_2_code 9 = .ok (.iconst 0, 1) := by decide +kernel
theorem zd_SplitSearch_findBest_10 : decode prog_8_method_2_code 10 = .ok (.istore 5, 2) := by decide +kernel
theorem zd_SplitSearch_findBest_12 : decode prog_8_method_2_code 12 = .ok (.iload 5, 2) := by decide +kernel
theorem zd_SplitSearch_findBest_14 : decode prog_8_method_2_code 14 = .ok (.iconst 3, 1) := by decide +kernel
theorem zd_SplitSearch_findBest_15 : decode prog_8_method_2_code 15 = .ok (.if_icmp .ge 117, 3) := by decide +kernel
theorem zd_SplitSearch_findBest_18 : decode prog_8_method_2_code 18 = .ok (.aload_n 1, 1) := by decide +kernel
theorem zd_SplitSearch_findBest_19 : decode prog_8_method_2_code 19 = .ok (.aload_n 2, 1) := by decide +kernel
theorem zd_SplitSearch_findBest_20 : decode prog_8_method_2_code 20 = .ok (.getfield 41, 3) := by decide +kernel
theorem zd_SplitSearch_findBest_23 : decode prog_8_method_2_code 23 = .ok (.iload 5, 2) := by decide +kernel
theorem zd_SplitSearch_findBest_25 : decode prog_8_method_2_code 25 = .ok (.invokevirtual 45, 3) := by decide +kernel
theorem zd_SplitSearch_findBest_28 : decode prog_8_method_2_code 28 = .ok (.istore 6, 2) := by decide +kernel
theorem zd_SplitSearch_findBest_30 : decode prog_8_method_2_code 30 = .ok (.aload_n 0, 1) := by decide +kernel
theorem zd_SplitSearch_findBest_31 : decode prog_8_method_2_code 31 = .ok (.getfield 12, 3) := by decide +kernel
theorem zd_SplitSearch_findBest_34 : decode prog_8_method_2_code 34 = .ok (.aload_n 1, 1) := by decide +kernel
theorem zd_SplitSearch_findBest_35 : decode prog_8_method_2_code 35 = .ok (.iload 6, 2) := by decide +kernel
theorem zd_SplitSearch_findBest_37 : decode prog_8_method_2_code 37 = .ok (.iload 5, 2) := by decide +kernel
theorem zd_SplitSearch_findBest_39 : decode prog_8_method_2_code 39 = .ok (.invokevirtual 51, 3) := by decide +kernel
theorem zd_SplitSearch_findBest_42 : decode prog_8_method_2_code 42 = .ok (.iconst 0, 1) := by decide +kernel
theorem zd_SplitSearch_findBest_43 : decode prog_8_method_2_code 43 = .ok (.istore 7, 2) := by decide +kernel
theorem zd_SplitSearch_findBest_45 : decode prog_8_method_2_code 45 = .ok (.iload 7, 2) := by decide +kernel
theorem zd_SplitSearch_findBest_47 : decode prog_8_method_2_code 47 = .ok (.aload_n 0, 1) := by decide +kernel
theorem zd_SplitSearch_findBest_48 : decode prog_8_method_2_code 48 = .ok (.getfield 12, 3) := by decide +kernel
theorem zd_SplitSearch_findBest_51 : decode prog_8_method_2_code 51 = .ok (.invokevirtual 55, 3) := by decide +kernel
theorem zd_SplitSearch_findBest_54 : decode prog_8_method_2_code 54 = .ok (.if_icmp .ge 72, 3) := by decide +kernel
theorem zd_SplitSearch_findBest_57 : decode prog_8_method_2_code 57 = .ok (.aload_n 0, 1) := by decide +kernel
theorem zd_SplitSearch_findBest_58 : decode prog_8_method_2_code 58 = .ok (.aload_n 1, 1) := by decide +kernel
theorem zd_SplitSearch_findBest_59 : decode prog_8_method_2_code 59 = .ok (.iload 6, 2) := by decide +kernel
theorem zd_SplitSearch_findBest_61 : decode prog_8_method_2_code 61 = .ok (.aload_n 1, 1) := by decide +kernel
theorem zd_SplitSearch_findBest_62 : decode prog_8_method_2_code 62 = .ok (.iload 6, 2) := by decide +kernel
theorem zd_SplitSearch_findBest_64 : decode prog_8_method_2_code 64 = .ok (.iload 5, 2) := by decide +kernel
theorem zd_SplitSearch_findBest_66 : decode prog_8_method_2_code 66 = .ok (.aload_n 0, 1) := by decide +kernel
theorem zd_SplitSearch_findBest_67 : decode prog_8_method_2_code 67 = .ok (.getfield 12, 3) := by decide +kernel
theorem zd_SplitSearch_findBest_70 : decode prog_8_method_2_code 70 = .ok (.iload 7, 2) := by decide +kernel
theorem zd_SplitSearch_findBest_72 : decode prog_8_method_2_code 72 = .ok (.invokevirtual 59, 3) := by decide +kernel
theorem zd_SplitSearch_findBest_75 : decode prog_8_method_2_code 75 = .ok (.invokevirtual 63, 3) := by decide +kernel
theorem zd_SplitSearch_findBest_78 : decode prog_8_method_2_code 78 = .ok (.invokevirtual 67, 3) := by decide +kernel
theorem zd_SplitSearch_findBest_81 : decode prog_8_method_2_code 81 = .ok (.aload_n 0, 1) := by decide +kernel
theorem zd_SplitSearch_findBest_82 : decode prog_8_method_2_code 82 = .ok (.getfield 70, 3) := by decide +kernel
theorem zd_SplitSearch_findBest_85 : decode prog_8_method_2_code 85 = .ok (.iload 4, 2) := by decide +kernel
theorem zd_SplitSearch_findBest_87 : decode prog_8_method_2_code 87 = .ok (.if_icmp .lt 33, 3) := by decide +kernel
theorem zd_SplitSearch_findBest_90 : decode prog_8_method_2_code 90 = .ok (.aload_n 0, 1) := by decide +kernel
theorem zd_SplitSearch_findBest_91 : decode prog_8_method_2_code 91 = .ok (.getfield 73, 3) := by decide +kernel
theorem zd_SplitSearch_findBest_94 : decode prog_8_method_2_code 94 = .ok (.iload 4, 2) := by decide +kernel
theorem zd_SplitSearch_findBest_96 : decode prog_8_method_2_code 96 = .ok (.if_icmp .lt 24, 3) := by decide +kernel
theorem zd_SplitSearch_findBest_99 : decode prog_8_method_2_code 99 = .ok (.aload_n 0, 1) := by decide +kernel
theorem zd_SplitSearch_findBest_100 : decode prog_8_method_2_code 100 = .ok (.iload_n 3, 1) := by decide +kernel
theorem zd_SplitSearch_findBest_101 : decode prog_8_method_2_code 101 = .ok (.invokevirtual 76, 3) := by decide +kernel
theorem zd_SplitSearch_findBest_104 : decode prog_8_method_2_code 104 = .ok (.aload_n 0, 1) := by decide +kernel
theorem zd_SplitSearch_findBest_105 : decode prog_8_method_2_code 105 = .ok (.aload_n 2, 1) := by decide +kernel
theorem zd_SplitSearch_findBest_106 : decode prog_8_method_2_code 106 = .ok (.iload 5, 2) := by decide +kernel
theorem zd_SplitSearch_findBest_108 : decode prog_8_method_2_code 108 = .ok (.aload_n 0, 1) := by decide +kernel
theorem zd_SplitSearch_findBest_109 : decode prog_8_method_2_code 109 = .ok (.getfield 12, 3) := by decide +kernel
theorem zd_SplitSearch_findBest_112 : decode prog_8_method_2_code 112 = .ok (.iload 7, 2) := by decide +kernel
theorem zd_SplitSearch_findBest_114 : decode prog_8_method_2_code 114 = .ok (.invokevirtual 59, 3) := by decide +kernel
theorem zd_SplitSearch_findBest_117 : decode prog_8_method_2_code 117 = .ok (.invokevirtual 80, 3) := by decide +kernel
theorem zd_SplitSearch_findBest_120 : decode prog_8_method_2_code 120 = .ok (.iinc 7 1, 3) := by decide +kernel
theorem zd_SplitSearch_findBest_123 : decode prog_8_method_2_code 123 = .ok (.goto (-78), 3) := by decide +kernel
theorem zd_SplitSearch_findBest_126 : decode prog_8_method_2_code 126 = .ok (.iinc 5 1, 3) := by decide +kernel
theorem zd_SplitSearch_findBest_129 : decode prog_8_method_2_code 129 = .ok (.goto (-117), 3) := by decide +kernel
theorem zd_SplitSearch_findBest_132 : decode prog_8_method_2_code 132 = .ok (.aload_n 2, 1) := by decide +kernel
theorem zd_SplitSearch_findBest_133 : decode prog_8_method_2_code 133 = .ok (.getfield 32, 3) := by decide +kernel
theorem zd_SplitSearch_findBest_136 : decode prog_8_method_2_code 136 = .ok (.getfield 84, 3) := by decide +kernel
theorem zd_SplitSearch_findBest_139 : decode prog_8_method_2_code 139 = .ok (.lconst 0, 1) := by decide +kernel
theorem zd_SplitSearch_findBest_140 : decode prog_8_method_2_code 140 = .ok (.lcmp, 1) := by decide +kernel
theorem zd_SplitSearch_findBest_141 : decode prog_8_method_2_code 141 = .ok (.ifCond .le 7, 3) := by decide +kernel
theorem zd_SplitSearch_findBest_144 : decode prog_8_method_2_code 144 = .ok (.iconst 1, 1) := by decide +kernel
theorem zd_SplitSearch_findBest_145 : decode prog_8_method_2_code 145 = .ok (.goto 4, 3) := by decide +kernel
theorem zd_SplitSearch_findBest_148 : decode prog_8_method_2_code 148 = .ok (.iconst 0, 1) := by decide +kernel
theorem zd_SplitSearch_findBest_149 : decode prog_8_method_2_code 149 = .ok (.ireturn, 1) := by decide +kernel
def zm_Math_max : zg_M := (⟨"java/lang/Math", "max", "(II)I"⟩, prog_15_method_65_code, 2, (some .int))
theorem zd_Math_max_0 : decode prog_15_method_65_code 0 = .ok (.iload_n 0, 1) := by decide +kernel
theorem zd_Math_max_1 : decode prog_15_method_65_code 1 = .ok (.iload_n 1, 1) := by decide +kernel
theorem zd_Math_max_2 : decode prog_15_method_65_code 2 = .ok (.if_icmp .lt 7, 3) := by decide +kernel
theorem zd_Math_max_5 : decode prog_15_method_65_code 5 = .ok (.iload_n 0, 1) := by decide +kernel
theorem zd_Math_max_6 : decode prog_15_method_65_code 6 = .ok (.goto 4, 3) := by decide +kernel
theorem zd_Math_max_9 : decode prog_15_method_65_code 9 = .ok (.iload_n 1, 1) := by decide +kernel
theorem zd_Math_max_10 : decode prog_15_method_65_code 10 = .ok (.ireturn, 1) := by decide +kernel
def zm_Math_floorDiv : zg_M := (⟨"java/lang/Math", "floorDiv", "(JJ)J"⟩, prog_15_method_49_code, 6, (some .long))
theorem zd_Math_floorDiv_0 : decode prog_15_method_49_code 0 = .ok (.lload_n 0, 1) := by decide +kernel
theorem zd_Math_floorDiv_1 : decode prog_15_method_49_code 1 = .ok (.lload_n 2, 1) := by decide +kernel
theorem zd_Math_floorDiv_2 : decode prog_15_method_49_code 2 = .ok (.ldiv, 1) := by decide +kernel
theorem zd_Math_floorDiv_3 : decode prog_15_method_49_code 3 = .ok (.lstore 4, 2) := by decide +kernel
theorem zd_Math_floorDiv_5 : decode prog_15_method_49_code 5 = .ok (.lload_n 0, 1) := by decide +kernel
theorem zd_Math_floorDiv_6 : decode prog_15_method_49_code 6 = .ok (.lload_n 2, 1) := by decide +kernel
theorem zd_Math_floorDiv_7 : decode prog_15_method_49_code 7 = .ok (.lxor, 1) := by decide +kernel
theorem zd_Math_floorDiv_8 : decode prog_15_method_49_code 8 = .ok (.lconst 0, 1) := by decide +kernel
theorem zd_Math_floorDiv_9 : decode prog_15_method_49_code 9 = .ok (.lcmp, 1) := by decide +kernel
theorem zd_Math_floorDiv_10 : decode prog_15_method_49_code 10 = .ok (.ifCond .ge 17, 3) := by decide +kernel
theorem zd_Math_floorDiv_13 : decode prog_15_method_49_code 13 = .ok (.lload 4, 2) := by decide +kernel
theorem zd_Math_floorDiv_15 : decode prog_15_method_49_code 15 = .ok (.lload_n 2, 1) := by decide +kernel
theorem zd_Math_floorDiv_16 : decode prog_15_method_49_code 16 = .ok (.lmul, 1) := by decide +kernel
theorem zd_Math_floorDiv_17 : decode prog_15_method_49_code 17 = .ok (.lload_n 0, 1) := by decide +kernel
theorem zd_Math_floorDiv_18 : decode prog_15_method_49_code 18 = .ok (.lcmp, 1) := by decide +kernel
theorem zd_Math_floorDiv_19 : decode prog_15_method_49_code 19 = .ok (.ifCond .eq 8, 3) := by decide +kernel
theorem zd_Math_floorDiv_22 : decode prog_15_method_49_code 22 = .ok (.lload 4, 2) := by decide +kernel
theorem zd_Math_floorDiv_24 : decode prog_15_method_49_code 24 = .ok (.lconst 1, 1) := by decide +kernel
theorem zd_Math_floorDiv_25 : decode prog_15_method_49_code 25 = .ok (.lsub, 1) := by decide +kernel
theorem zd_Math_floorDiv_26 : decode prog_15_method_49_code 26 = .ok (.lreturn, 1) := by decide +kernel
theorem zd_Math_floorDiv_27 : decode prog_15_method_49_code 27 = .ok (.lload 4, 2) := by decide +kernel
theorem zd_Math_floorDiv_29 : decode prog_15_method_49_code 29 = .ok (.lreturn, 1) := by decide +kernel
def zm_SplitSearch_weighSides : zg_M := (⟨"SurrogateTree$SplitSearch", "weighSides", "(LSurrogateTree$Table;II)V"⟩, prog_8_method_3_code, 6, none)
theorem zd_SplitSearch_weighSides_0 : decode prog_8_method_3_code 0 = .ok (.iload_n 2, 1) := by decide +kernel
theorem zd_SplitSearch_weighSides_1 : decode prog_8_method_3_code 1 = .ok (.iload_n 3, 1) := by decide +kernel
theorem zd_SplitSearch_weighSides_2 : decode prog_8_method_3_code 2 = .ok (.iconst (-1), 1) := by decide +kernel
theorem zd_SplitSearch_weighSides_3 : decode prog_8_method_3_code 3 = .ok (.ixor, 1) := by decide +kernel
theorem zd_SplitSearch_weighSides_4 : decode prog_8_method_3_code 4 = .ok (.iand, 1) := by decide +kernel
theorem zd_SplitSearch_weighSides_5 : decode prog_8_method_3_code 5 = .ok (.istore 4, 2) := by decide +kernel
theorem zd_SplitSearch_weighSides_7 : decode prog_8_method_3_code 7 = .ok (.iconst 0, 1) := by decide +kernel
theorem zd_SplitSearch_weighSides_8 : decode prog_8_method_3_code 8 = .ok (.istore 5, 2) := by decide +kernel
theorem zd_SplitSearch_weighSides_10 : decode prog_8_method_3_code 10 = .ok (.iload 5, 2) := by decide +kernel
theorem zd_SplitSearch_weighSides_12 : decode prog_8_method_3_code 12 = .ok (.iconst 4, 1) := by decide +kernel
theorem zd_SplitSearch_weighSides_13 : decode prog_8_method_3_code 13 = .ok (.if_icmp .ge 46, 3) := by decide +kernel
theorem zd_SplitSearch_weighSides_16 : decode prog_8_method_3_code 16 = .ok (.aload_n 0, 1) := by decide +kernel
theorem zd_SplitSearch_weighSides_17 : decode prog_8_method_3_code 17 = .ok (.getfield 18, 3) := by decide +kernel
theorem zd_SplitSearch_weighSides_20 : decode prog_8_method_3_code 20 = .ok (.iload 5, 2) := by decide +kernel
theorem zd_SplitSearch_weighSides_22 : decode prog_8_method_3_code 22 = .ok (.aload_n 1, 1) := by decide +kernel
theorem zd_SplitSearch_weighSides_23 : decode prog_8_method_3_code 23 = .ok (.aload_n 1, 1) := by decide +kernel
theorem zd_SplitSearch_weighSides_24 : decode prog_8_method_3_code 24 = .ok (.iload_n 3, 1) := by decide +kernel
theorem zd_SplitSearch_weighSides_25 : decode prog_8_method_3_code 25 = .ok (.iload 5, 2) := by decide +kernel
theorem zd_SplitSearch_weighSides_27 : decode prog_8_method_3_code 27 = .ok (.invokevirtual 88, 3) := by decide +kernel
theorem zd_SplitSearch_weighSides_30 : decode prog_8_method_3_code 30 = .ok (.invokevirtual 91, 3) := by decide +kernel
theorem zd_SplitSearch_weighSides_33 : decode prog_8_method_3_code 33 = .ok (.iastore, 1) := by decide +kernel
theorem zd_SplitSearch_weighSides_34 : decode prog_8_method_3_code 34 = .ok (.aload_n 0, 1) := by decide +kernel
theorem zd_SplitSearch_weighSides_35 : decode prog_8_method_3_code 35 = .ok (.getfield 22, 3) := by decide +kernel
theorem zd_SplitSearch_weighSides_38 : decode prog_8_method_3_code 38 = .ok (.iload 5, 2) := by decide +kernel
theorem zd_SplitSearch_weighSides_40 : decode prog_8_method_3_code 40 = .ok (.aload_n 1, 1) := by decide +kernel
theorem zd_SplitSearch_weighSides_41 : decode prog_8_method_3_code 41 = .ok (.aload_n 1, 1) := by decide +kernel
theorem zd_SplitSearch_weighSides_42 : decode prog_8_method_3_code 42 = .ok (.iload 4, 2) := by decide +kernel
theorem zd_SplitSearch_weighSides_44 : decode prog_8_method_3_code 44 = .ok (.iload 5, 2) := by decide +kernel
theorem zd_SplitSearch_weighSides_46 : decode prog_8_method_3_code 46 = .ok (.invokevirtual 88, 3) := by decide +kernel
theorem zd_SplitSearch_weighSides_49 : decode prog_8_method_3_code 49 = .ok (.invokevirtual 91, 3) := by decide +kernel
theorem zd_SplitSearch_weighSides_52 : decode prog_8_method_3_code 52 = .ok (.iastore, 1) := by decide +kernel
theorem zd_SplitSearch_weighSides_53 : decode prog_8_method_3_code 53 = .ok (.iinc 5 1, 3) := by decide +kernel
theorem zd_SplitSearch_weighSides_56 : decode prog_8_method_3_code 56 = .ok (.goto (-46), 3) := by decide +kernel
theorem zd_SplitSearch_weighSides_59 : decode prog_8_method_3_code 59 = .ok (.aload_n 0, 1) := by decide +kernel
theorem zd_SplitSearch_weighSides_60 : decode prog_8_method_3_code 60 = .ok (.aload_n 1, 1) := by decide +kernel
theorem zd_SplitSearch_weighSides_61 : decode prog_8_method_3_code 61 = .ok (.iload_n 3, 1) := by decide +kernel
theorem zd_SplitSearch_weighSides_62 : decode prog_8_method_3_code 62 = .ok (.invokevirtual 91, 3) := by decide +kernel
theorem zd_SplitSearch_weighSides_65 : decode prog_8_method_3_code 65 = .ok (.putfield 70, 3) := by decide +kernel
theorem zd_SplitSearch_weighSides_68 : decode prog_8_method_3_code 68 = .ok (.aload_n 0, 1) := by decide +kernel
theorem zd_SplitSearch_weighSides_69 : decode prog_8_method_3_code 69 = .ok (.aload_n 1, 1) := by decide +kernel
theorem zd_SplitSearch_weighSides_70 : decode prog_8_method_3_code 70 = .ok (.iload 4, 2) := by decide +kernel
theorem zd_SplitSearch_weighSides_72 : decode prog_8_method_3_code 72 = .ok (.invokevirtual 91, 3) := by decide +kernel
theorem zd_SplitSearch_weighSides_75 : decode prog_8_method_3_code 75 = .ok (.putfield 73, 3) := by decide +kernel
theorem zd_SplitSearch_weighSides_78 : decode prog_8_method_3_code 78 = .ok (.return_, 1) := by decide +kernel
def zm_SplitSearch_measure : zg_M := (⟨"SurrogateTree$SplitSearch", "measure", "(I)V"⟩, prog_8_method_5_code, 2, none)
theorem zd_SplitSearch_measure_0 : decode prog_8_method_5_code 0 = .ok (.iload_n 1, 1) := by decide +kernel
theorem zd_SplitSearch_measure_1 : decode prog_8_method_5_code 1 = .ok (.ifCond .ne 10, 3) := by decide +kernel
theorem zd_SplitSearch_measure_4 : decode prog_8_method_5_code 4 = .ok (.aload_n 0, 1) := by decide +kernel
theorem zd_SplitSearch_measure_5 : decode prog_8_method_5_code 5 = .ok (.invokevirtual 112, 3) := by decide +kernel
theorem zd_SplitSearch_measure_8 : decode prog_8_method_5_code 8 = .ok (.goto 19, 3) := by decide +kernel
theorem zd_SplitSearch_measure_11 : decode prog_8_method_5_code 11 = .ok (.iload_n 1, 1) := by decide +kernel
theorem zd_SplitSearch_measure_12 : decode prog_8_method_5_code 12 = .ok (.iconst 1, 1) := by decide +kernel
theorem zd_SplitSearch_measure_13 : decode prog_8_method_5_code 13 = .ok (.if_icmp .ne 10, 3) := by decide +kernel
theorem zd_SplitSearch_measure_16 : decode prog_8_method_5_code 16 = .ok (.aload_n 0, 1) := by decide +kernel
theorem zd_SplitSearch_measure_17 : decode prog_8_method_5_code 17 = .ok (.invokevirtual 115, 3) := by decide +kernel
theorem zd_SplitSearch_measure_20 : decode prog_8_method_5_code 20 = .ok (.goto 7, 3) := by decide +kernel
theorem zd_SplitSearch_measure_23 : decode prog_8_method_5_code 23 = .ok (.aload_n 0, 1) := by decide +kernel
theorem zd_SplitSearch_measure_24 : decode prog_8_method_5_code 24 = .ok (.invokevirtual 118, 3) := by decide +kernel
theorem zd_SplitSearch_measure_27 : decode prog_8_method_5_code 27 = .ok (.return_, 1) := by decide +kernel
def zm_SplitSearch_measureSquares : zg_M := (⟨"SurrogateTree$SplitSearch", "measureSquares", "()V"⟩, prog_8_method_6_code, 13, none)
theorem zd_SplitSearch_measureSquares_0 : decode prog_8_method_6_code 0 = .ok (.lconst 0, 1) := by decide +kernel
theorem zd_SplitSearch_measureSquares_1 : decode prog_8_method_6_code 1 = .ok (.lstore_n 1, 1) := by decide +kernel
theorem zd_SplitSearch_measureSquares_2 : decode prog_8_method_6_code 2 = .ok (.lconst 0, 1) := by decide +kernel
theorem zd_SplitSearch_measureSquares_3 : decode prog_8_method_6_code 3 = .ok (.lstore_n 3, 1) := by decide +kernel
theorem zd_SplitSearch_measureSquares_4 : decode prog_8_method_6_code 4 = .ok (.lconst 0, 1) := by decide +kernel
theorem zd_SplitSearch_measureSquares_5 : decode prog_8_method_6_code 5 = .ok (.lstore 5, 2) := by decide +kernel
theorem zd_SplitSearch_measureSquares_7 : decode prog_8_method_6_code 7 = .ok (.iconst 0, 1) := by decide +kernel
theorem zd_SplitSearch_measureSquares_8 : decode prog_8_method_6_code 8 = .ok (.istore 7, 2) := by decide +kernel
theorem zd_SplitSearch_measureSquares_10 : decode prog_8_method_6_code 10 = .ok (.iload 7, 2) := by decide +kernel
theorem zd_SplitSearch_measureSquares_12 : decode prog_8_method_6_code 12 = .ok (.iconst 4, 1) := by decide +kernel
theorem zd_SplitSearch_measureSquares_13 : decode prog_8_method_6_code 13 = .ok (.if_icmp .ge 75, 3) := by decide +kernel
theorem zd_SplitSearch_measureSquares_16 : decode prog_8_method_6_code 16 = .ok (.aload_n 0, 1) := by decide +kernel
theorem zd_SplitSearch_measureSquares_17 : decode prog_8_method_6_code 17 = .ok (.getfield 18, 3) := by decide +kernel
theorem zd_SplitSearch_measureSquares_20 : decode prog_8_method_6_code 20 = .ok (.iload 7, 2) := by decide +kernel
theorem zd_SplitSearch_measureSquares_22 : decode prog_8_method_6_code 22 = .ok (.iaload, 1) := by decide +kernel
theorem zd_SplitSearch_measureSquares_23 : decode prog_8_method_6_code 23 = .ok (.aload_n 0, 1) := by decide +kernel
theorem zd_SplitSearch_measureSquares_24 : decode prog_8_method_6_code 24 = .ok (.getfield 22, 3) := by decide +kernel
theorem zd_SplitSearch_measureSquares_27 : decode prog_8_method_6_code 27 = .ok (.iload 7, 2) := by decide +kernel
theorem zd_SplitSearch_measureSquares_29 : decode prog_8_method_6_code 29 = .ok (.iaload, 1) := by decide +kernel
theorem zd_SplitSearch_measureSquares_30 : decode prog_8_method_6_code 30 = .ok (.iadd, 1) := by decide +kernel
theorem zd_SplitSearch_measureSquares_31 : decode prog_8_method_6_code 31 = .ok (.istore 8, 2) := by decide +kernel
theorem zd_SplitSearch_measureSquares_33 : decode prog_8_method_6_code 33 = .ok (.lload_n 1, 1) := by decide +kernel
theorem zd_SplitSearch_measureSquares_34 : decode prog_8_method_6_code 34 = .ok (.aload_n 0, 1) := by decide +kernel
theorem zd_SplitSearch_measureSquares_35 : decode prog_8_method_6_code 35 = .ok (.getfield 18, 3) := by decide +kernel
theorem zd_SplitSearch_measureSquares_38 : decode prog_8_method_6_code 38 = .ok (.iload 7, 2) := by decide +kernel
theorem zd_SplitSearch_measureSquares_40 : decode prog_8_method_6_code 40 = .ok (.iaload, 1) := by decide +kernel
theorem zd_SplitSearch_measureSquares_41 : decode prog_8_method_6_code 41 = .ok (.aload_n 0, 1) := by decide +kernel
theorem zd_SplitSearch_measureSquares_42 : decode prog_8_method_6_code 42 = .ok (.getfield 18, 3) := by decide +kernel
theorem zd_SplitSearch_measureSquares_45 : decode prog_8_method_6_code 45 = .ok (.iload 7, 2) := by decide +kernel
theorem zd_SplitSearch_measureSquares_47 : decode prog_8_method_6_code 47 = .ok (.iaload, 1) := by decide +kernel
theorem zd_SplitSearch_measureSquares_48 : decode prog_8_method_6_code 48 = .ok (.imul, 1) := by decide +kernel
theorem zd_SplitSearch_measureSquares_49 : decode prog_8_method_6_code 49 = .ok (.i2l, 1) := by decide +kernel
theorem zd_SplitSearch_measureSquares_50 : decode prog_8_method_6_code 50 = .ok (.ladd, 1) := by decide +kernel
theorem zd_SplitSearch_measureSquares_51 : decode prog_8_method_6_code 51 = .ok (.lstore_n 1, 1) := by decide +kernel
theorem zd_SplitSearch_measureSquares_52 : decode prog_8_method_6_code 52 = .ok (.lload_n 3, 1) := by decide +kernel
theorem zd_SplitSearch_measureSquares_53 : decode prog_8_method_6_code 53 = .ok (.aload_n 0, 1) := by decide +kernel
theorem zd_SplitSearch_measureSquares_54 : decode prog_8_method_6_code 54 = .ok (.getfield 22, 3) := by decide +kernel
theorem zd_SplitSearch_measureSquares_57 : decode prog_8_method_6_code 57 = .ok (.iload 7, 2) := by decide +kernel
theorem zd_SplitSearch_measureSquares_59 : decode prog_8_method_6_code 59 = .ok (.iaload, 1) := by decide +kernel
theorem zd_SplitSearch_measureSquares_60 : decode prog_8_method_6_code 60 = .ok (.aload_n 0, 1) := by decide +kernel
theorem zd_SplitSearch_measureSquares_61 : decode prog_8_method_6_code 61 = .ok (.getfield 22, 3) := by decide +kernel
theorem zd_SplitSearch_measureSquares_64 : decode prog_8_method_6_code 64 = .ok (.iload 7, 2) := by decide +kernel
theorem zd_SplitSearch_measureSquares_66 : decode prog_8_method_6_code 66 = .ok (.iaload, 1) := by decide +kernel
theorem zd_SplitSearch_measureSquares_67 : decode prog_8_method_6_code 67 = .ok (.imul, 1) := by decide +kernel
theorem zd_SplitSearch_measureSquares_68 : decode prog_8_method_6_code 68 = .ok (.i2l, 1) := by decide +kernel
theorem zd_SplitSearch_measureSquares_69 : decode prog_8_method_6_code 69 = .ok (.ladd, 1) := by decide +kernel
theorem zd_SplitSearch_measureSquares_70 : decode prog_8_method_6_code 70 = .ok (.lstore_n 3, 1) := by decide +kernel
theorem zd_SplitSearch_measureSquares_71 : decode prog_8_method_6_code 71 = .ok (.lload 5, 2) := by decide +kernel
theorem zd_SplitSearch_measureSquares_73 : decode prog_8_method_6_code 73 = .ok (.iload 8, 2) := by decide +kernel
theorem zd_SplitSearch_measureSquares_75 : decode prog_8_method_6_code 75 = .ok (.iload 8, 2) := by decide +kernel
theorem zd_SplitSearch_measureSquares_77 : decode prog_8_method_6_code 77 = .ok (.imul, 1) := by decide +kernel
theorem zd_SplitSearch_measureSquares_78 : decode prog_8_method_6_code 78 = .ok (.i2l, 1) := by decide +kernel
theorem zd_SplitSearch_measureSquares_79 : decode prog_8_method_6_code 79 = .ok (.ladd, 1) := by decide +kernel
theorem zd_SplitSearch_measureSquares_80 : decode prog_8_method_6_code 80 = .ok (.lstore 5, 2) := by decide +kernel
theorem zd_SplitSearch_measureSquares_82 : decode prog_8_method_6_code 82 = .ok (.iinc 7 1, 3) := by decide +kernel
theorem zd_SplitSearch_measureSquares_85 : decode prog_8_method_6_code 85 = .ok (.goto (-75), 3) := by decide +kernel
theorem zd_SplitSearch_measureSquares_88 : decode prog_8_method_6_code 88 = .ok (.aload_n 0, 1) := by decide +kernel
theorem zd_SplitSearch_measureSquares_89 : decode prog_8_method_6_code 89 = .ok (.getfield 70, 3) := by decide +kernel
theorem zd_SplitSearch_measureSquares_92 : decode prog_8_method_6_code 92 = .ok (.aload_n 0, 1) := by decide +kernel
theorem zd_SplitSearch_measureSquares_93 : decode prog_8_method_6_code 93 = .ok (.getfield 73, 3) := by decide +kernel
theorem zd_SplitSearch_measureSquares_96 : decode prog_8_method_6_code 96 = .ok (.iadd, 1) := by decide +kernel
theorem zd_SplitSearch_measureSquares_97 : decode prog_8_method_6_code 97 = .ok (.i2l, 1) := by decide +kernel
theorem zd_SplitSearch_measureSquares_98 : decode prog_8_method_6_code 98 = .ok (.lstore 7, 2) := by decide +kernel
theorem zd_SplitSearch_measureSquares_100 : decode prog_8_method_6_code 100 = .ok (.aload_n 0, 1) := by decide +kernel
theorem zd_SplitSearch_measureSquares_101 : decode prog_8_method_6_code 101 = .ok (.getfield 70, 3) := by decide +kernel
theorem zd_SplitSearch_measureSquares_104 : decode prog_8_method_6_code 104 = .ok (.aload_n 0, 1) := by decide +kernel
theorem zd_SplitSearch_measureSquares_105 : decode prog_8_method_6_code 105 = .ok (.getfield 73, 3) := by decide +kernel
theorem zd_SplitSearch_measureSquares_108 : decode prog_8_method_6_code 108 = .ok (.imul, 1) := by decide +kernel
theorem zd_SplitSearch_measureSquares_109 : decode prog_8_method_6_code 109 = .ok (.i2l, 1) := by decide +kernel
theorem zd_SplitSearch_measureSquares_110 : decode prog_8_method_6_code 110 = .ok (.lstore 9, 2) := by decide +kernel
theorem zd_SplitSearch_measureSquares_112 : decode prog_8_method_6_code 112 = .ok (.lload_n 1, 1) := by decide +kernel
theorem zd_SplitSearch_measureSquares_113 : decode prog_8_method_6_code 113 = .ok (.aload_n 0, 1) := by decide +kernel
theorem zd_SplitSearch_measureSquares_114 : decode prog_8_method_6_code 114 = .ok (.getfield 73, 3) := by decide +kernel
theorem zd_SplitSearch_measureSquares_117 : decode prog_8_method_6_code 117 = .ok (.i2l, 1) := by decide +kernel
theorem zd_SplitSearch_measureSquares_118 : decode prog_8_method_6_code 118 = .ok (.lmul, 1) := by decide +kernel
theorem zd_SplitSearch_measureSquares_119 : decode prog_8_method_6_code 119 = .ok (.lload_n 3, 1) := by decide +kernel
theorem zd_SplitSearch_measureSquares_120 : decode prog_8_method_6_code 120 = .ok (.aload_n 0, 1) := by decide +kernel
theorem zd_SplitSearch_measureSquares_121 : decode prog_8_method_6_code 121 = .ok (.getfield 70, 3) := by decide +kernel
theorem zd_SplitSearch_measureSquares_124 : decode prog_8_method_6_code 124 = .ok (.i2l, 1) := by decide +kernel
theorem zd_SplitSearch_measureSquares_125 : decode prog_8_method_6_code 125 = .ok (.lmul, 1) := by decide +kernel
theorem zd_SplitSearch_measureSquares_126 : decode prog_8_method_6_code 126 = .ok (.ladd, 1) := by decide +kernel
theorem zd_SplitSearch_measureSquares_127 : decode prog_8_method_6_code 127 = .ok (.lload 7, 2) := by decide +kernel
theorem zd_SplitSearch_measureSquares_129 : decode prog_8_method_6_code 129 = .ok (.lmul, 1) := by decide +kernel
theorem zd_SplitSearch_measureSquares_130 : decode prog_8_method_6_code 130 = .ok (.lload 5, 2) := by decide +kernel
theorem zd_SplitSearch_measureSquares_132 : decode prog_8_method_6_code 132 = .ok (.lload 9, 2) := by decide +kernel
theorem zd_SplitSearch_measureSquares_134 : decode prog_8_method_6_code 134 = .ok (.lmul, 1) := by decide +kernel
theorem zd_SplitSearch_measureSquares_135 : decode prog_8_method_6_code 135 = .ok (.lsub, 1) := by decide +kernel
theorem zd_SplitSearch_measureSquares_136 : decode prog_8_method_6_code 136 = .ok (.lstore 11, 2) := by decide +kernel
theorem zd_SplitSearch_measureSquares_138 : decode prog_8_method_6_code 138 = .ok (.aload_n 0, 1) := by decide +kernel
theorem zd_SplitSearch_measureSquares_139 : decode prog_8_method_6_code 139 = .ok (.getfield 28, 3) := by decide +kernel
theorem zd_SplitSearch_measureSquares_142 : decode prog_8_method_6_code 142 = .ok (.lload 11, 2) := by decide +kernel
theorem zd_SplitSearch_measureSquares_144 : decode prog_8_method_6_code 144 = .ok (.lload 9, 2) := by decide +kernel
theorem zd_SplitSearch_measureSquares_146 : decode prog_8_method_6_code 146 = .ok (.lload 7, 2) := by decide +kernel
theorem zd_SplitSearch_measureSquares_148 : decode prog_8_method_6_code 148 = .ok (.lmul, 1) := by decide +kernel
theorem zd_SplitSearch_measureSquares_149 : decode prog_8_method_6_code 149 = .ok (.invokevirtual 37, 3) := by decide +kernel
theorem zd_SplitSearch_measureSquares_152 : decode prog_8_method_6_code 152 = .ok (.return_, 1) := by decide +kernel
def zm_SplitSearch_measureMajorities : zg_M := (⟨"SurrogateTree$SplitSearch", "measureMajorities", "()V"⟩, prog_8_method_7_code, 5, none)
theorem zd_SplitSearch_measureMajorities_0 : decode prog_8_method_7_code 0 = .ok (.iconst 0, 1) := by decide +kernel
theorem zd_SplitSearch_measureMajorities_1 : decode prog_8_method_7_code 1 = .ok (.istore_n 1, 1) := by decide +kernel
theorem zd_SplitSearch_measureMajorities_2 : decode prog_8_method_7_code 2 = .ok (.iconst 0, 1) := by decide +kernel
theorem zd_SplitSearch_measureMajorities_3 : decode prog_8_method_7_code 3 = .ok (.istore_n 2, 1) := by decide +kernel
theorem zd_SplitSearch_measureMajorities_4 : decode prog_8_method_7_code 4 = .ok (.iconst 0, 1) := by decide +kernel
theorem zd_SplitSearch_measureMajorities_5 : decode prog_8_method_7_code 5 = .ok (.istore_n 3, 1) := by decide +kernel
theorem zd_SplitSearch_measureMajorities_6 : decode prog_8_method_7_code 6 = .ok (.iconst 0, 1) := by decide +kernel
theorem zd_SplitSearch_measureMajorities_7 : decode prog_8_method_7_code 7 = .ok (.istore 4, 2) := by decide +kernel
theorem zd_SplitSearch_measureMajorities_9 : decode prog_8_method_7_code 9 = .ok (.iload 4, 2) := by decide +kernel
theorem zd_SplitSearch_measureMajorities_11 : decode prog_8_method_7_code 11 = .ok (.iconst 4, 1) := by decide +kernel
theorem zd_SplitSearch_measureMajorities_12 : decode prog_8_method_7_code 12 = .ok (.if_icmp .ge 53, 3) := by decide +kernel
theorem zd_SplitSearch_measureMajorities_15 : decode prog_8_method_7_code 15 = .ok (.iload_n 1, 1) := by decide +kernel
theorem zd_SplitSearch_measureMajorities_16 : decode prog_8_method_7_code 16 = .ok (.aload_n 0, 1) := by decide +kernel
theorem zd_SplitSearch_measureMajorities_17 : decode prog_8_method_7_code 17 = .ok (.getfield 18, 3) := by decide +kernel
theorem zd_SplitSearch_measureMajorities_20 : decode prog_8_method_7_code 20 = .ok (.iload 4, 2) := by decide +kernel
theorem zd_SplitSearch_measureMajorities_22 : decode prog_8_method_7_code 22 = .ok (.iaload, 1) := by decide +kernel
theorem zd_SplitSearch_measureMajorities_23 : decode prog_8_method_7_code 23 = .ok (.invokestatic 121, 3) := by decide +kernel
theorem zd_SplitSearch_measureMajorities_26 : decode prog_8_method_7_code 26 = .ok (.istore_n 1, 1) := by decide +kernel
theorem zd_SplitSearch_measureMajorities_27 : decode prog_8_method_7_code 27 = .ok (.iload_n 2, 1) := by decide +kernel
theorem zd_SplitSearch_measureMajorities_28 : decode prog_8_method_7_code 28 = .ok (.aload_n 0, 1) := by decide +kernel
theorem zd_SplitSearch_measureMajorities_29 : decode prog_8_method_7_code 29 = .ok (.getfield 22, 3) := by decide +kernel
theorem zd_SplitSearch_measureMajorities_32 : decode prog_8_method_7_code 32 = .ok (.iload 4, 2) := by decide +kernel
theorem zd_SplitSearch_measureMajorities_34 : decode prog_8_method_7_code 34 = .ok (.iaload, 1) := by decide +kernel
theorem zd_SplitSearch_measureMajorities_35 : decode prog_8_method_7_code 35 = .ok (.invokestatic 121, 3) := by decide +kernel
theorem zd_SplitSearch_measureMajorities_38 : decode prog_8_method_7_code 38 = .ok (.istore_n 2, 1) := by decide +kernel
theorem zd_SplitSearch_measureMajorities_39 : decode prog_8_method_7_code 39 = .ok (.iload_n 3, 1) := by decide +kernel
theorem zd_SplitSearch_measureMajorities_40 : decode prog_8_method_7_code 40 = .ok (.aload_n 0, 1) := by decide +kernel
theorem zd_SplitSearch_measureMajorities_41 : decode prog_8_method_7_code 41 = .ok (.getfield 18, 3) := by decide +kernel
theorem zd_SplitSearch_measureMajorities_44 : decode prog_8_method_7_code 44 = .ok (.iload 4, 2) := by decide +kernel
theorem zd_SplitSearch_measureMajorities_46 : decode prog_8_method_7_code 46 = .ok (.iaload, 1) := by decide +kernel
theorem zd_SplitSearch_measureMajorities_47 : decode prog_8_method_7_code 47 = .ok (.aload_n 0, 1) := by decide +kernel
theorem zd_SplitSearch_measureMajorities_48 : decode prog_8_method_7_code 48 = .ok (.getfield 22, 3) := by decide +kernel
theorem zd_SplitSearch_measureMajorities_51 : decode prog_8_method_7_code 51 = .ok (.iload 4, 2) := by decide +kernel
theorem zd_SplitSearch_measureMajorities_53 : decode prog_8_method_7_code 53 = .ok (.iaload, 1) := by decide +kernel
theorem zd_SplitSearch_measureMajorities_54 : decode prog_8_method_7_code 54 = .ok (.iadd, 1) := by decide +kernel
theorem zd_SplitSearch_measureMajorities_55 : decode prog_8_method_7_code 55 = .ok (.invokestatic 121, 3) := by decide +kernel
theorem zd_SplitSearch_measureMajorities_58 : decode prog_8_method_7_code 58 = .ok (.istore_n 3, 1) := by decide +kernel
theorem zd_SplitSearch_measureMajorities_59 : decode prog_8_method_7_code 59 = .ok (.iinc 4 1, 3) := by decide +kernel
theorem zd_SplitSearch_measureMajorities_62 : decode prog_8_method_7_code 62 = .ok (.goto (-53), 3) := by decide +kernel
theorem zd_SplitSearch_measureMajorities_65 : decode prog_8_method_7_code 65 = .ok (.aload_n 0, 1) := by decide +kernel
theorem zd_SplitSearch_measureMajorities_66 : decode prog_8_method_7_code 66 = .ok (.getfield 28, 3) := by decide +kernel
theorem zd_SplitSearch_measureMajorities_69 : decode prog_8_method_7_code 69 = .ok (.iload_n 1, 1) := by decide +kernel
theorem zd_SplitSearch_measureMajorities_70 : decode prog_8_method_7_code 70 = .ok (.iload_n 2, 1) := by decide +kernel
theorem zd_SplitSearch_measureMajorities_71 : decode prog_8_method_7_code 71 = .ok (.iadd, 1) := by decide +kernel
theorem zd_SplitSearch_measureMajorities_72 : decode prog_8_method_7_code 72 = .ok (.iload_n 3, 1) := by decide +kernel
theorem zd_SplitSearch_measureMajorities_73 : decode prog_8_method_7_code 73 = .ok (.isub, 1) := by decide +kernel
theorem zd_SplitSearch_measureMajorities_74 : decode prog_8_method_7_code 74 = .ok (.i2l, 1) := by decide +kernel
theorem zd_SplitSearch_measureMajorities_75 : decode prog_8_method_7_code 75 = .ok (.lconst 1, 1) := by decide +kernel
theorem zd_SplitSearch_measureMajorities_76 : decode prog_8_method_7_code 76 = .ok (.invokevirtual 37, 3) := by decide +kernel
theorem zd_SplitSearch_measureMajorities_79 : decode prog_8_method_7_code 79 = .ok (.return_, 1) := by decide +kernel
def zm_SplitSearch_measureDistance : zg_M := (⟨"SurrogateTree$SplitSearch", "measureDistance", "()V"⟩, prog_8_method_8_code, 5, none)
theorem zd_SplitSearch_measureDistance_0 : decode prog_8_method_8_code 0 = .ok (.lconst 0, 1) := by decide +kernel
theorem zd_SplitSearch_measureDistance_1 : decode prog_8_method_8_code 1 = .ok (.lstore_n 1, 1) := by decide +kernel
theorem zd_SplitSearch_measureDistance_2 : decode prog_8_method_8_code 2 = .ok (.iconst 0, 1) := by decide +kernel
theorem zd_SplitSearch_measureDistance_3 : decode prog_8_method_8_code 3 = .ok (.istore_n 3, 1) := by decide +kernel
theorem zd_SplitSearch_measureDistance_4 : decode prog_8_method_8_code 4 = .ok (.iload_n 3, 1) := by decide +kernel
theorem zd_SplitSearch_measureDistance_5 : decode prog_8_method_8_code 5 = .ok (.iconst 4, 1) := by decide +kernel
theorem zd_SplitSearch_measureDistance_6 : decode prog_8_method_8_code 6 = .ok (.if_icmp .ge 39, 3) := by decide +kernel
theorem zd_SplitSearch_measureDistance_9 : decode prog_8_method_8_code 9 = .ok (.lload_n 1, 1) := by decide +kernel
theorem zd_SplitSearch_measureDistance_10 : decode prog_8_method_8_code 10 = .ok (.aload_n 0, 1) := by decide +kernel
theorem zd_SplitSearch_measureDistance_11 : decode prog_8_method_8_code 11 = .ok (.getfield 18, 3) := by decide +kernel
theorem zd_SplitSearch_measureDistance_14 : decode prog_8_method_8_code 14 = .ok (.iload_n 3, 1) := by decide +kernel
theorem zd_SplitSearch_measureDistance_15 : decode prog_8_method_8_code 15 = .ok (.iaload, 1) := by decide +kernel
theorem zd_SplitSearch_measureDistance_16 : decode prog_8_method_8_code 16 = .ok (.aload_n 0, 1) := by decide +kernel
theorem zd_SplitSearch_measureDistance_17 : decode prog_8_method_8_code 17 = .ok (.getfield 73, 3) := by decide +kernel
theorem zd_SplitSearch_measureDistance_20 : decode prog_8_method_8_code 20 = .ok (.imul, 1) := by decide +kernel
theorem zd_SplitSearch_measureDistance_21 : decode prog_8_method_8_code 21 = .ok (.aload_n 0, 1) := by decide +kernel
theorem zd_SplitSearch_measureDistance_22 : decode prog_8_method_8_code 22 = .ok (.getfield 22, 3) := by decide +kernel
theorem zd_SplitSearch_measureDistance_25 : decode prog_8_method_8_code 25 = .ok (.iload_n 3, 1) := by decide +kernel
theorem zd_SplitSearch_measureDistance_26 : decode prog_8_method_8_code 26 = .ok (.iaload, 1) := by decide +kernel
theorem zd_SplitSearch_measureDistance_27 : decode prog_8_method_8_code 27 = .ok (.aload_n 0, 1) := by decide +kernel
theorem zd_SplitSearch_measureDistance_28 : decode prog_8_method_8_code 28 = .ok (.getfield 70, 3) := by decide +kernel
theorem zd_SplitSearch_measureDistance_31 : decode prog_8_method_8_code 31 = .ok (.imul, 1) := by decide +kernel
theorem zd_SplitSearch_measureDistance_32 : decode prog_8_method_8_code 32 = .ok (.isub, 1) := by decide +kernel
theorem zd_SplitSearch_measureDistance_33 : decode prog_8_method_8_code 33 = .ok (.invokestatic 126, 3) := by decide +kernel
theorem zd_SplitSearch_measureDistance_36 : decode prog_8_method_8_code 36 = .ok (.i2l, 1) := by decide +kernel
theorem zd_SplitSearch_measureDistance_37 : decode prog_8_method_8_code 37 = .ok (.ladd, 1) := by decide +kernel
theorem zd_SplitSearch_measureDistance_38 : decode prog_8_method_8_code 38 = .ok (.lstore_n 1, 1) := by decide +kernel
theorem zd_SplitSearch_measureDistance_39 : decode prog_8_method_8_code 39 = .ok (.iinc 3 1, 3) := by decide +kernel
theorem zd_SplitSearch_measureDistance_42 : decode prog_8_method_8_code 42 = .ok (.goto (-38), 3) := by decide +kernel
theorem zd_SplitSearch_measureDistance_45 : decode prog_8_method_8_code 45 = .ok (.aload_n 0, 1) := by decide +kernel
theorem zd_SplitSearch_measureDistance_46 : decode prog_8_method_8_code 46 = .ok (.getfield 70, 3) := by decide +kernel
theorem zd_SplitSearch_measureDistance_49 : decode prog_8_method_8_code 49 = .ok (.aload_n 0, 1) := by decide +kernel
theorem zd_SplitSearch_measureDistance_50 : decode prog_8_method_8_code 50 = .ok (.getfield 73, 3) := by decide +kernel
theorem zd_SplitSearch_measureDistance_53 : decode prog_8_method_8_code 53 = .ok (.iadd, 1) := by decide +kernel
theorem zd_SplitSearch_measureDistance_54 : decode prog_8_method_8_code 54 = .ok (.i2l, 1) := by decide +kernel
theorem zd_SplitSearch_measureDistance_55 : decode prog_8_method_8_code 55 = .ok (.lstore_n 3, 1) := by decide +kernel
theorem zd_SplitSearch_measureDistance_56 : decode prog_8_method_8_code 56 = .ok (.aload_n 0, 1) := by decide +kernel
theorem zd_SplitSearch_measureDistance_57 : decode prog_8_method_8_code 57 = .ok (.getfield 28, 3) := by decide +kernel
theorem zd_SplitSearch_measureDistance_60 : decode prog_8_method_8_code 60 = .ok (.lload_n 1, 1) := by decide +kernel
theorem zd_SplitSearch_measureDistance_61 : decode prog_8_method_8_code 61 = .ok (.lload_n 1, 1) := by decide +kernel
theorem zd_SplitSearch_measureDistance_62 : decode prog_8_method_8_code 62 = .ok (.lmul, 1) := by decide +kernel
theorem zd_SplitSearch_measureDistance_63 : decode prog_8_method_8_code 63 = .ok (.lload_n 3, 1) := by decide +kernel
theorem zd_SplitSearch_measureDistance_64 : decode prog_8_method_8_code 64 = .ok (.aload_n 0, 1) := by decide +kernel
theorem zd_SplitSearch_measureDistance_65 : decode prog_8_method_8_code 65 = .ok (.getfield 70, 3) := by decide +kernel
theorem zd_SplitSearch_measureDistance_68 : decode prog_8_method_8_code 68 = .ok (.i2l, 1) := by decide +kernel
theorem zd_SplitSearch_measureDistance_69 : decode prog_8_method_8_code 69 = .ok (.lmul, 1) := by decide +kernel
theorem zd_SplitSearch_measureDistance_70 : decode prog_8_method_8_code 70 = .ok (.aload_n 0, 1) := by decide +kernel
theorem zd_SplitSearch_measureDistance_71 : decode prog_8_method_8_code 71 = .ok (.getfield 73, 3) := by decide +kernel
theorem zd_SplitSearch_measureDistance_74 : decode prog_8_method_8_code 74 = .ok (.i2l, 1) := by decide +kernel
theorem zd_SplitSearch_measureDistance_75 : decode prog_8_method_8_code 75 = .ok (.lmul, 1) := by decide +kernel
theorem zd_SplitSearch_measureDistance_76 : decode prog_8_method_8_code 76 = .ok (.invokevirtual 37, 3) := by decide +kernel
theorem zd_SplitSearch_measureDistance_79 : decode prog_8_method_8_code 79 = .ok (.return_, 1) := by decide +kernel
def zm_Math_abs : zg_M := (⟨"java/lang/Math", "abs", "(I)I"⟩, prog_15_method_59_code, 1, (some .int))
theorem zd_Math_abs_0 : decode prog_15_method_59_code 0 = .ok (.iload_n 0, 1) := by decide +kernel
theorem zd_Math_abs_1 : decode prog_15_method_59_code 1 = .ok (.ifCond .ge 8, 3) := by decide +kernel
theorem zd_Math_abs_4 : decode prog_15_method_59_code 4 = .ok (.iload_n 0, 1) := by decide +kernel
theorem zd_Math_abs_5 : decode prog_15_method_59_code 5 = .ok (.ineg, 1) := by decide +kernel
theorem zd_Math_abs_6 : decode prog_15_method_59_code 6 = .ok (.goto 4, 3) := by decide +kernel
theorem zd_Math_abs_9 : decode prog_15_method_59_code 9 = .ok (.iload_n 0, 1) := by decide +kernel
theorem zd_Math_abs_10 : decode prog_15_method_59_code 10 = .ok (.ireturn, 1) := by decide +kernel
def zm_SplitSearch_offer : zg_M := (⟨"SurrogateTree$SplitSearch", "offer", "(LSurrogateTree$Node;II)V"⟩, prog_8_method_4_code, 4, none)
theorem zd_SplitSearch_offer_0 : decode prog_8_method_4_code 0 = .ok (.aload_n 0, 1) := by decide +kernel
theorem zd_SplitSearch_offer_1 : decode prog_8_method_4_code 1 = .ok (.getfield 28, 3) := by decide +kernel
theorem zd_SplitSearch_offer_4 : decode prog_8_method_4_code 4 = .ok (.aload_n 1, 1) := by decide +kernel
theorem zd_SplitSearch_offer_5 : decode prog_8_method_4_code 5 = .ok (.getfield 32, 3) := by decide +kernel
theorem zd_SplitSearch_offer_8 : decode prog_8_method_4_code 8 = .ok (.invokevirtual 94, 3) := by decide +kernel
theorem zd_SplitSearch_offer_11 : decode prog_8_method_4_code 11 = .ok (.ifCond .eq 44, 3) := by decide +kernel
theorem zd_SplitSearch_offer_14 : decode prog_8_method_4_code 14 = .ok (.aload_n 1, 1) := by decide +kernel
theorem zd_SplitSearch_offer_15 : decode prog_8_method_4_code 15 = .ok (.getfield 32, 3) := by decide +kernel
theorem zd_SplitSearch_offer_18 : decode prog_8_method_4_code 18 = .ok (.aload_n 0, 1) := by decide +kernel
theorem zd_SplitSearch_offer_19 : decode prog_8_method_4_code 19 = .ok (.getfield 28, 3) := by decide +kernel
theorem zd_SplitSearch_offer_22 : decode prog_8_method_4_code 22 = .ok (.invokevirtual 98, 3) := by decide +kernel
theorem zd_SplitSearch_offer_25 : decode prog_8_method_4_code 25 = .ok (.aload_n 1, 1) := by decide +kernel
theorem zd_SplitSearch_offer_26 : decode prog_8_method_4_code 26 = .ok (.iload_n 2, 1) := by decide +kernel
theorem zd_SplitSearch_offer_27 : decode prog_8_method_4_code 27 = .ok (.putfield 102, 3) := by decide +kernel
theorem zd_SplitSearch_offer_30 : decode prog_8_method_4_code 30 = .ok (.aload_n 1, 1) := by decide +kernel
theorem zd_SplitSearch_offer_31 : decode prog_8_method_4_code 31 = .ok (.iload_n 3, 1) := by decide +kernel
theorem zd_SplitSearch_offer_32 : decode prog_8_method_4_code 32 = .ok (.putfield 105, 3) := by decide +kernel
theorem zd_SplitSearch_offer_35 : decode prog_8_method_4_code 35 = .ok (.aload_n 1, 1) := by decide +kernel
theorem zd_SplitSearch_offer_36 : decode prog_8_method_4_code 36 = .ok (.aload_n 0, 1) := by decide +kernel
theorem zd_SplitSearch_offer_37 : decode prog_8_method_4_code 37 = .ok (.getfield 70, 3) := by decide +kernel
theorem zd_SplitSearch_offer_40 : decode prog_8_method_4_code 40 = .ok (.aload_n 0, 1) := by decide +kernel
theorem zd_SplitSearch_offer_41 : decode prog_8_method_4_code 41 = .ok (.getfield 73, 3) := by decide +kernel
theorem zd_SplitSearch_offer_44 : decode prog_8_method_4_code 44 = .ok (.if_icmp .lt 7, 3) := by decide +kernel
theorem zd_SplitSearch_offer_47 : decode prog_8_method_4_code 47 = .ok (.iconst 1, 1) := by decide +kernel
theorem zd_SplitSearch_offer_48 : decode prog_8_method_4_code 48 = .ok (.goto 4, 3) := by decide +kernel
theorem zd_SplitSearch_offer_51 : decode prog_8_method_4_code 51 = .ok (.iconst 0, 1) := by decide +kernel
theorem zd_SplitSearch_offer_52 : decode prog_8_method_4_code 52 = .ok (.putfield 108, 3) := by decide +kernel
theorem zd_SplitSearch_offer_55 : decode prog_8_method_4_code 55 = .ok (.return_, 1) := by decide +kernel
def zm_StandInSearch_findFor : zg_M := (⟨"SurrogateTree$StandInSearch", "findFor", "(LSurrogateTree$Table;LSurrogateTree$Node;)V"⟩, prog_10_method_2_code, 4, none)
theorem zd_StandInSearch_findFor_0 : decode prog_10_method_2_code 0 = .ok (.aload_n 2, 1) := by decide +kernel
theorem zd_StandInSearch_findFor_1 : decode prog_10_method_2_code 1 = .ok (.iconst 0, 1) := by decide +kernel
theorem zd_StandInSearch_findFor_2 : decode prog_10_method_2_code 2 = .ok (.putfield 25, 3) := by decide +kernel
theorem zd_StandInSearch_findFor_5 : decode prog_10_method_2_code 5 = .ok (.iconst 0, 1) := by decide +kernel
theorem zd_StandInSearch_findFor_6 : decode prog_10_method_2_code 6 = .ok (.istore_n 3, 1) := by decide +kernel
theorem zd_StandInSearch_findFor_7 : decode prog_10_method_2_code 7 = .ok (.iload_n 3, 1) := by decide +kernel
theorem zd_StandInSearch_findFor_8 : decode prog_10_method_2_code 8 = .ok (.iconst 3, 1) := by decide +kernel
theorem zd_StandInSearch_findFor_9 : decode prog_10_method_2_code 9 = .ok (.if_icmp .ge 35, 3) := by decide +kernel
theorem zd_StandInSearch_findFor_12 : decode prog_10_method_2_code 12 = .ok (.iload_n 3, 1) := by decide +kernel
theorem zd_StandInSearch_findFor_13 : decode prog_10_method_2_code 13 = .ok (.aload_n 2, 1) := by decide +kernel
theorem zd_StandInSearch_findFor_14 : decode prog_10_method_2_code 14 = .ok (.getfield 31, 3) := by decide +kernel
theorem zd_StandInSearch_findFor_17 : decode prog_10_method_2_code 17 = .ok (.if_icmp .eq 21, 3) := by decide +kernel
theorem zd_StandInSearch_findFor_20 : decode prog_10_method_2_code 20 = .ok (.aload_n 0, 1) := by decide +kernel
theorem zd_StandInSearch_findFor_21 : decode prog_10_method_2_code 21 = .ok (.aload_n 1, 1) := by decide +kernel
theorem zd_StandInSearch_findFor_22 : decode prog_10_method_2_code 22 = .ok (.aload_n 2, 1) := by decide +kernel
theorem zd_StandInSearch_findFor_23 : decode prog_10_method_2_code 23 = .ok (.iload_n 3, 1) := by decide +kernel
theorem zd_StandInSearch_findFor_24 : decode prog_10_method_2_code 24 = .ok (.invokevirtual 34, 3) := by decide +kernel
theorem zd_StandInSearch_findFor_27 : decode prog_10_method_2_code 27 = .ok (.ifCond .eq 11, 3) := by decide +kernel
theorem zd_StandInSearch_findFor_30 : decode prog_10_method_2_code 30 = .ok (.aload_n 2, 1) := by decide +kernel
theorem zd_StandInSearch_findFor_31 : decode prog_10_method_2_code 31 = .ok (.aload_n 0, 1) := by decide +kernel
theorem zd_StandInSearch_findFor_32 : decode prog_10_method_2_code 32 = .ok (.getfield 21, 3) := by decide +kernel
theorem zd_StandInSearch_findFor_35 : decode prog_10_method_2_code 35 = .ok (.invokevirtual 38, 3) := by decide +kernel
theorem zd_StandInSearch_findFor_38 : decode prog_10_method_2_code 38 = .ok (.iinc 3 1, 3) := by decide +kernel
theorem zd_StandInSearch_findFor_41 : decode prog_10_method_2_code 41 = .ok (.goto (-34), 3) := by decide +kernel
theorem zd_StandInSearch_findFor_44 : decode prog_10_method_2_code 44 = .ok (.return_, 1) := by decide +kernel
def zm_StandInSearch_findAt : zg_M := (⟨"SurrogateTree$StandInSearch", "findAt", "(LSurrogateTree$Table;LSurrogateTree$Node;I)Z"⟩, prog_10_method_3_code, 13, (some .boolean))
theorem zd_StandInSearch_findAt_0 : decode prog_10_method_3_code 0 = .ok (.aload_n 1, 1) := by decide +kernel
theorem zd_StandInSearch_findAt_1 : decode prog_10_method_3_code 1 = .ok (.aload_n 1, 1) := by decide +kernel
theorem zd_StandInSearch_findAt_2 : decode prog_10_method_3_code 2 = .ok (.aload_n 2, 1) := by decide +kernel
theorem zd_StandInSearch_findAt_3 : decode prog_10_method_3_code 3 = .ok (.getfield 42, 3) := by decide +kernel
theorem zd_StandInSearch_findAt_6 : decode prog_10_method_3_code 6 = .ok (.aload_n 2, 1) := by decide +kernel
theorem zd_StandInSearch_findAt_7 : decode prog_10_method_3_code 7 = .ok (.getfield 31, 3) := by decide +kernel
theorem zd_StandInSearch_findAt_10 : decode prog_10_method_3_code 10 = .ok (.invokevirtual 45, 3) := by decide +kernel
theorem zd_StandInSearch_findAt_13 : decode prog_10_method_3_code 13 = .ok (.iload_n 3, 1) := by decide +kernel
theorem zd_StandInSearch_findAt_14 : decode prog_10_method_3_code 14 = .ok (.invokevirtual 45, 3) := by decide +kernel
theorem zd_StandInSearch_findAt_17 : decode prog_10_method_3_code 17 = .ok (.istore 4, 2) := by decide +kernel
theorem zd_StandInSearch_findAt_19 : decode prog_10_method_3_code 19 = .ok (.aload_n 1, 1) := by decide +kernel
theorem zd_StandInSearch_findAt_20 : decode prog_10_method_3_code 20 = .ok (.iload 4, 2) := by decide +kernel
theorem zd_StandInSearch_findAt_22 : decode prog_10_method_3_code 22 = .ok (.aload_n 2, 1) := by decide +kernel
theorem zd_StandInSearch_findAt_23 : decode prog_10_method_3_code 23 = .ok (.getfield 31, 3) := by decide +kernel
theorem zd_StandInSearch_findAt_26 : decode prog_10_method_3_code 26 = .ok (.aload_n 2, 1) := by decide +kernel
theorem zd_StandInSearch_findAt_27 : decode prog_10_method_3_code 27 = .ok (.getfield 51, 3) := by decide +kernel
theorem zd_StandInSearch_findAt_30 : decode prog_10_method_3_code 30 = .ok (.invokevirtual 54, 3) := by decide +kernel
theorem zd_StandInSearch_findAt_33 : decode prog_10_method_3_code 33 = .ok (.istore 5, 2) := by decide +kernel
theorem zd_StandInSearch_findAt_35 : decode prog_10_method_3_code 35 = .ok (.aload_n 1, 1) := by decide +kernel
theorem zd_StandInSearch_findAt_36 : decode prog_10_method_3_code 36 = .ok (.iload 4, 2) := by decide +kernel
theorem zd_StandInSearch_findAt_38 : decode prog_10_method_3_code 38 = .ok (.invokevirtual 58, 3) := by decide +kernel
theorem zd_StandInSearch_findAt_41 : decode prog_10_method_3_code 41 = .ok (.istore 6, 2) := by decide +kernel
theorem zd_StandInSearch_findAt_43 : decode prog_10_method_3_code 43 = .ok (.aload_n 1, 1) := by decide +kernel
theorem zd_StandInSearch_findAt_44 : decode prog_10_method_3_code 44 = .ok (.iload 5, 2) := by decide +kernel
theorem zd_StandInSearch_findAt_46 : decode prog_10_method_3_code 46 = .ok (.invokevirtual 58, 3) := by decide +kernel
theorem zd_StandInSearch_findAt_49 : decode prog_10_method_3_code 49 = .ok (.istore 7, 2) := by decide +kernel
theorem zd_StandInSearch_findAt_51 : decode prog_10_method_3_code 51 = .ok (.iload 7, 2) := by decide +kernel
theorem zd_StandInSearch_findAt_53 : decode prog_10_method_3_code 53 = .ok (.iload 6, 2) := by decide +kernel
theorem zd_StandInSearch_findAt_55 : decode prog_10_method_3_code 55 = .ok (.iload 7, 2) := by decide +kernel
theorem zd_StandInSearch_findAt_57 : decode prog_10_method_3_code 57 = .ok (.isub, 1) := by decide +kernel
theorem zd_StandInSearch_findAt_58 : decode prog_10_method_3_code 58 = .ok (.invokestatic 62, 3) := by decide +kernel
theorem zd_StandInSearch_findAt_61 : decode prog_10_method_3_code 61 = .ok (.istore 8, 2) := by decide +kernel
theorem zd_StandInSearch_findAt_63 : decode prog_10_method_3_code 63 = .ok (.aload_n 0, 1) := by decide +kernel
theorem zd_StandInSearch_findAt_64 : decode prog_10_method_3_code 64 = .ok (.getfield 21, 3) := by decide +kernel
theorem zd_StandInSearch_findAt_67 : decode prog_10_method_3_code 67 = .ok (.iload_n 3, 1) := by decide +kernel
theorem zd_StandInSearch_findAt_68 : decode prog_10_method_3_code 68 = .ok (.putfield 67, 3) := by decide +kernel
theorem zd_StandInSearch_findAt_71 : decode prog_10_method_3_code 71 = .ok (.aload_n 0, 1) := by decide +kernel
theorem zd_StandInSearch_findAt_72 : decode prog_10_method_3_code 72 = .ok (.getfield 21, 3) := by decide +kernel
theorem zd_StandInSearch_findAt_75 : decode prog_10_method_3_code 75 = .ok (.iload 8, 2) := by decide +kernel
theorem zd_StandInSearch_findAt_77 : decode prog_10_method_3_code 77 = .ok (.putfield 68, 3) := by decide +kernel
theorem zd_StandInSearch_findAt_80 : decode prog_10_method_3_code 80 = .ok (.aload_n 0, 1) := by decide +kernel
theorem zd_StandInSearch_findAt_81 : decode prog_10_method_3_code 81 = .ok (.getfield 12, 3) := by decide +kernel
theorem zd_StandInSearch_findAt_84 : decode prog_10_method_3_code 84 = .ok (.aload_n 1, 1) := by decide +kernel
theorem zd_StandInSearch_findAt_85 : decode prog_10_method_3_code 85 = .ok (.iload 4, 2) := by decide +kernel
theorem zd_StandInSearch_findAt_87 : decode prog_10_method_3_code 87 = .ok (.iload_n 3, 1) := by decide +kernel
theorem zd_StandInSearch_findAt_88 : decode prog_10_method_3_code 88 = .ok (.invokevirtual 71, 3) := by decide +kernel
theorem zd_StandInSearch_findAt_91 : decode prog_10_method_3_code 91 = .ok (.iconst 0, 1) := by decide +kernel
theorem zd_StandInSearch_findAt_92 : decode prog_10_method_3_code 92 = .ok (.istore 9, 2) := by decide +kernel
theorem zd_StandInSearch_findAt_94 : decode prog_10_method_3_code 94 = .ok (.iload 9, 2) := by decide +kernel
theorem zd_StandInSearch_findAt_96 : decode prog_10_method_3_code 96 = .ok (.aload_n 0, 1) := by decide +kernel
theorem zd_StandInSearch_findAt_97 : decode prog_10_method_3_code 97 = .ok (.getfield 12, 3) := by decide +kernel
theorem zd_StandInSearch_findAt_100 : decode prog_10_method_3_code 100 = .ok (.invokevirtual 75, 3) := by decide +kernel
theorem zd_StandInSearch_findAt_103 : decode prog_10_method_3_code 103 = .ok (.if_icmp .ge 68, 3) := by decide +kernel
theorem zd_StandInSearch_findAt_106 : decode prog_10_method_3_code 106 = .ok (.aload_n 0, 1) := by decide +kernel
theorem zd_StandInSearch_findAt_107 : decode prog_10_method_3_code 107 = .ok (.getfield 12, 3) := by decide +kernel
theorem zd_StandInSearch_findAt_110 : decode prog_10_method_3_code 110 = .ok (.iload 9, 2) := by decide +kernel
theorem zd_StandInSearch_findAt_112 : decode prog_10_method_3_code 112 = .ok (.invokevirtual 79, 3) := by decide +kernel
theorem zd_StandInSearch_findAt_115 : decode prog_10_method_3_code 115 = .ok (.istore 10, 2) := by decide +kernel
theorem zd_StandInSearch_findAt_117 : decode prog_10_method_3_code 117 = .ok (.iload 4, 2) := by decide +kernel
theorem zd_StandInSearch_findAt_119 : decode prog_10_method_3_code 119 = .ok (.iload 5, 2) := by decide +kernel
theorem zd_StandInSearch_findAt_121 : decode prog_10_method_3_code 121 = .ok (.aload_n 1, 1) := by decide +kernel
theorem zd_StandInSearch_findAt_122 : decode prog_10_method_3_code 122 = .ok (.iload 4, 2) := by decide +kernel
theorem zd_StandInSearch_findAt_124 : decode prog_10_method_3_code 124 = .ok (.iload_n 3, 1) := by decide +kernel
theorem zd_StandInSearch_findAt_125 : decode prog_10_method_3_code 125 = .ok (.iload 10, 2) := by decide +kernel
theorem zd_StandInSearch_findAt_127 : decode prog_10_method_3_code 127 = .ok (.invokevirtual 54, 3) := by decide +kernel
theorem zd_StandInSearch_findAt_130 : decode prog_10_method_3_code 130 = .ok (.ixor, 1) := by decide +kernel
theorem zd_StandInSearch_findAt_131 : decode prog_10_method_3_code 131 = .ok (.iconst (-1), 1) := by decide +kernel
theorem zd_StandInSearch_findAt_132 : decode prog_10_method_3_code 132 = .ok (.ixor, 1) := by decide +kernel
theorem zd_StandInSearch_findAt_133 : decode prog_10_method_3_code 133 = .ok (.iand, 1) := by decide +kernel
theorem zd_StandInSearch_findAt_134 : decode prog_10_method_3_code 134 = .ok (.istore 11, 2) := by decide +kernel
theorem zd_StandInSearch_findAt_136 : decode prog_10_method_3_code 136 = .ok (.aload_n 1, 1) := by decide +kernel
theorem zd_StandInSearch_findAt_137 : decode prog_10_method_3_code 137 = .ok (.iload 11, 2) := by decide +kernel
theorem zd_StandInSearch_findAt_139 : decode prog_10_method_3_code 139 = .ok (.invokevirtual 58, 3) := by decide +kernel
theorem zd_StandInSearch_findAt_142 : decode prog_10_method_3_code 142 = .ok (.istore 12, 2) := by decide +kernel
theorem zd_StandInSearch_findAt_144 : decode prog_10_method_3_code 144 = .ok (.aload_n 0, 1) := by decide +kernel
theorem zd_StandInSearch_findAt_145 : decode prog_10_method_3_code 145 = .ok (.iload 10, 2) := by decide +kernel
theorem zd_StandInSearch_findAt_147 : decode prog_10_method_3_code 147 = .ok (.iconst 0, 1) := by decide +kernel
theorem zd_StandInSearch_findAt_148 : decode prog_10_method_3_code 148 = .ok (.iload 12, 2) := by decide +kernel
theorem zd_StandInSearch_findAt_150 : decode prog_10_method_3_code 150 = .ok (.invokevirtual 82, 3) := by decide +kernel
theorem zd_StandInSearch_findAt_153 : decode prog_10_method_3_code 153 = .ok (.aload_n 0, 1) := by decide +kernel
theorem zd_StandInSearch_findAt_154 : decode prog_10_method_3_code 154 = .ok (.iload 10, 2) := by decide +kernel
theorem zd_StandInSearch_findAt_156 : decode prog_10_method_3_code 156 = .ok (.iconst 1, 1) := by decide +kernel
theorem zd_StandInSearch_findAt_157 : decode prog_10_method_3_code 157 = .ok (.iload 6, 2) := by decide +kernel
theorem zd_StandInSearch_findAt_159 : decode prog_10_method_3_code 159 = .ok (.iload 12, 2) := by decide +kernel
theorem zd_StandInSearch_findAt_161 : decode prog_10_method_3_code 161 = .ok (.isub, 1) := by decide +kernel
theorem zd_StandInSearch_findAt_162 : decode prog_10_method_3_code 162 = .ok (.invokevirtual 82, 3) := by decide +kernel
theorem zd_StandInSearch_findAt_165 : decode prog_10_method_3_code 165 = .ok (.iinc 9 1, 3) := by decide +kernel
theorem zd_StandInSearch_findAt_168 : decode prog_10_method_3_code 168 = .ok (.goto (-74), 3) := by decide +kernel
theorem zd_StandInSearch_findAt_171 : decode prog_10_method_3_code 171 = .ok (.aload_n 0, 1) := by decide +kernel
theorem zd_StandInSearch_findAt_172 : decode prog_10_method_3_code 172 = .ok (.getfield 21, 3) := by decide +kernel
theorem zd_StandInSearch_findAt_175 : decode prog_10_method_3_code 175 = .ok (.getfield 68, 3) := by decide +kernel
theorem zd_StandInSearch_findAt_178 : decode prog_10_method_3_code 178 = .ok (.iload 8, 2) := by decide +kernel
theorem zd_StandInSearch_findAt_180 : decode prog_10_method_3_code 180 = .ok (.if_icmp .le 7, 3) := by decide +kernel
theorem zd_StandInSearch_findAt_183 : decode prog_10_method_3_code 183 = .ok (.iconst 1, 1) := by decide +kernel
theorem zd_StandInSearch_findAt_184 : decode prog_10_method_3_code 184 = .ok (.goto 4, 3) := by decide +kernel
theorem zd_StandInSearch_findAt_187 : decode prog_10_method_3_code 187 = .ok (.iconst 0, 1) := by decide +kernel
theorem zd_StandInSearch_findAt_188 : decode prog_10_method_3_code 188 = .ok (.ireturn, 1) := by decide +kernel
def zm_StandInSearch_offer : zg_M := (⟨"SurrogateTree$StandInSearch", "offer", "(IZI)V"⟩, prog_10_method_4_code, 4, none)
theorem zd_StandInSearch_offer_0 : decode prog_10_method_4_code 0 = .ok (.iload_n 3, 1) := by decide +kernel
theorem zd_StandInSearch_offer_1 : decode prog_10_method_4_code 1 = .ok (.aload_n 0, 1) := by decide +kernel
theorem zd_StandInSearch_offer_2 : decode prog_10_method_4_code 2 = .ok (.getfield 21, 3) := by decide +kernel
theorem zd_StandInSearch_offer_5 : decode prog_10_method_4_code 5 = .ok (.getfield 68, 3) := by decide +kernel
theorem zd_StandInSearch_offer_8 : decode prog_10_method_4_code 8 = .ok (.if_icmp .le 27, 3) := by decide +kernel
theorem zd_StandInSearch_offer_11 : decode prog_10_method_4_code 11 = .ok (.aload_n 0, 1) := by decide +kernel
theorem zd_StandInSearch_offer_12 : decode prog_10_method_4_code 12 = .ok (.getfield 21, 3) := by decide +kernel
theorem zd_StandInSearch_offer_15 : decode prog_10_method_4_code 15 = .ok (.iload_n 1, 1) := by decide +kernel
theorem zd_StandInSearch_offer_16 : decode prog_10_method_4_code 16 = .ok (.putfield 86, 3) := by decide +kernel
theorem zd_StandInSearch_offer_19 : decode prog_10_method_4_code 19 = .ok (.aload_n 0, 1) := by decide +kernel
theorem zd_StandInSearch_offer_20 : decode prog_10_method_4_code 20 = .ok (.getfield 21, 3) := by decide +kernel
theorem zd_StandInSearch_offer_23 : decode prog_10_method_4_code 23 = .ok (.iload_n 2, 1) := by decide +kernel
theorem zd_StandInSearch_offer_24 : decode prog_10_method_4_code 24 = .ok (.putfield 87, 3) := by decide +kernel
theorem zd_StandInSearch_offer_27 : decode prog_10_method_4_code 27 = .ok (.aload_n 0, 1) := by decide +kernel
theorem zd_StandInSearch_offer_28 : decode prog_10_method_4_code 28 = .ok (.getfield 21, 3) := by decide +kernel
theorem zd_StandInSearch_offer_31 : decode prog_10_method_4_code 31 = .ok (.iload_n 3, 1) := by decide +kernel
theorem zd_StandInSearch_offer_32 : decode prog_10_method_4_code 32 = .ok (.putfield 68, 3) := by decide +kernel
theorem zd_StandInSearch_offer_35 : decode prog_10_method_4_code 35 = .ok (.return_, 1) := by decide +kernel
def zm_Tree_kind : zg_M := (⟨"SurrogateTree", "kind", "(I)I"⟩, prog_1_method_8_code, 2, (some .int))
theorem zd_Tree_kind_0 : decode prog_1_method_8_code 0 = .ok (.aload_n 0, 1) := by decide +kernel
theorem zd_Tree_kind_1 : decode prog_1_method_8_code 1 = .ok (.getfield 122, 3) := by decide +kernel
theorem zd_Tree_kind_4 : decode prog_1_method_8_code 4 = .ok (.iload_n 1, 1) := by decide +kernel
theorem zd_Tree_kind_5 : decode prog_1_method_8_code 5 = .ok (.invokevirtual 125, 3) := by decide +kernel
theorem zd_Tree_kind_8 : decode prog_1_method_8_code 8 = .ok (.ireturn, 1) := by decide +kernel
def zm_Tree_rule : zg_M := (⟨"SurrogateTree", "rule", "(II)I"⟩, prog_1_method_9_code, 4, (some .int))
theorem zd_Tree_rule_0 : decode prog_1_method_9_code 0 = .ok (.aload_n 0, 1) := by decide +kernel
theorem zd_Tree_rule_1 : decode prog_1_method_9_code 1 = .ok (.getfield 122, 3) := by decide +kernel
theorem zd_Tree_rule_4 : decode prog_1_method_9_code 4 = .ok (.iload_n 1, 1) := by decide +kernel
theorem zd_Tree_rule_5 : decode prog_1_method_9_code 5 = .ok (.invokevirtual 125, 3) := by decide +kernel
theorem zd_Tree_rule_8 : decode prog_1_method_9_code 8 = .ok (.iconst 2, 1) := by decide +kernel
theorem zd_Tree_rule_9 : decode prog_1_method_9_code 9 = .ok (.if_icmp .eq 5, 3) := by decide +kernel
theorem zd_Tree_rule_12 : decode prog_1_method_9_code 12 = .ok (.iconst (-1), 1) := by decide +kernel
theorem zd_Tree_rule_13 : decode prog_1_method_9_code 13 = .ok (.ireturn, 1) := by decide +kernel
theorem zd_Tree_rule_14 : decode prog_1_method_9_code 14 = .ok (.aload_n 0, 1) := by decide +kernel
theorem zd_Tree_rule_15 : decode prog_1_method_9_code 15 = .ok (.getfield 25, 3) := by decide +kernel
theorem zd_Tree_rule_18 : decode prog_1_method_9_code 18 = .ok (.iload_n 1, 1) := by decide +kernel
theorem zd_Tree_rule_19 : decode prog_1_method_9_code 19 = .ok (.aaload, 1) := by decide +kernel
theorem zd_Tree_rule_20 : decode prog_1_method_9_code 20 = .ok (.astore_n 3, 1) := by decide +kernel
theorem zd_Tree_rule_21 : decode prog_1_method_9_code 21 = .ok (.iload_n 2, 1) := by decide +kernel
theorem zd_Tree_rule_22 : decode prog_1_method_9_code 22 = .ok (.ifCond .ne 8, 3) := by decide +kernel
theorem zd_Tree_rule_25 : decode prog_1_method_9_code 25 = .ok (.aload_n 3, 1) := by decide +kernel
theorem zd_Tree_rule_26 : decode prog_1_method_9_code 26 = .ok (.getfield 128, 3) := by decide +kernel
theorem zd_Tree_rule_29 : decode prog_1_method_9_code 29 = .ok (.ireturn, 1) := by decide +kernel
theorem zd_Tree_rule_30 : decode prog_1_method_9_code 30 = .ok (.aload_n 3, 1) := by decide +kernel
theorem zd_Tree_rule_31 : decode prog_1_method_9_code 31 = .ok (.iload_n 2, 1) := by decide +kernel
theorem zd_Tree_rule_32 : decode prog_1_method_9_code 32 = .ok (.invokevirtual 131, 3) := by decide +kernel
theorem zd_Tree_rule_35 : decode prog_1_method_9_code 35 = .ok (.ifCond .eq 17, 3) := by decide +kernel
theorem zd_Tree_rule_38 : decode prog_1_method_9_code 38 = .ok (.aload_n 3, 1) := by decide +kernel
theorem zd_Tree_rule_39 : decode prog_1_method_9_code 39 = .ok (.getfield 134, 3) := by decide +kernel
theorem zd_Tree_rule_42 : decode prog_1_method_9_code 42 = .ok (.iload_n 2, 1) := by decide +kernel
theorem zd_Tree_rule_43 : decode prog_1_method_9_code 43 = .ok (.iconst 1, 1) := by decide +kernel
theorem zd_Tree_rule_44 : decode prog_1_method_9_code 44 = .ok (.isub, 1) := by decide +kernel
theorem zd_Tree_rule_45 : decode prog_1_method_9_code 45 = .ok (.aaload, 1) := by decide +kernel
theorem zd_Tree_rule_46 : decode prog_1_method_9_code 46 = .ok (.invokevirtual 138, 3) := by decide +kernel
theorem zd_Tree_rule_49 : decode prog_1_method_9_code 49 = .ok (.goto 4, 3) := by decide +kernel
theorem zd_Tree_rule_52 : decode prog_1_method_9_code 52 = .ok (.iconst (-1), 1) := by decide +kernel
theorem zd_Tree_rule_53 : decode prog_1_method_9_code 53 = .ok (.ireturn, 1) := by decide +kernel
def zm_Tree_threshold : zg_M := (⟨"SurrogateTree", "threshold", "(II)I"⟩, prog_1_method_10_code, 4, (some .int))
theorem zd_Tree_threshold_0 : decode prog_1_method_10_code 0 = .ok (.aload_n 0, 1) := by decide +kernel
theorem zd_Tree_threshold_1 : decode prog_1_method_10_code 1 = .ok (.getfield 122, 3) := by decide +kernel
theorem zd_Tree_threshold_4 : decode prog_1_method_10_code 4 = .ok (.iload_n 1, 1) := by decide +kernel
theorem zd_Tree_threshold_5 : decode prog_1_method_10_code 5 = .ok (.invokevirtual 125, 3) := by decide +kernel
theorem zd_Tree_threshold_8 : decode prog_1_method_10_code 8 = .ok (.iconst 2, 1) := by decide +kernel
theorem zd_Tree_threshold_9 : decode prog_1_method_10_code 9 = .ok (.if_icmp .eq 5, 3) := by decide +kernel
theorem zd_Tree_threshold_12 : decode prog_1_method_10_code 12 = .ok (.iconst 0, 1) := by decide +kernel
theorem zd_Tree_threshold_13 : decode prog_1_method_10_code 13 = .ok (.ireturn, 1) := by decide +kernel
theorem zd_Tree_threshold_14 : decode prog_1_method_10_code 14 = .ok (.aload_n 0, 1) := by decide +kernel
theorem zd_Tree_threshold_15 : decode prog_1_method_10_code 15 = .ok (.getfield 25, 3) := by decide +kernel
theorem zd_Tree_threshold_18 : decode prog_1_method_10_code 18 = .ok (.iload_n 1, 1) := by decide +kernel
theorem zd_Tree_threshold_19 : decode prog_1_method_10_code 19 = .ok (.aaload, 1) := by decide +kernel
theorem zd_Tree_threshold_20 : decode prog_1_method_10_code 20 = .ok (.astore_n 3, 1) := by decide +kernel
theorem zd_Tree_threshold_21 : decode prog_1_method_10_code 21 = .ok (.iload_n 2, 1) := by decide +kernel
theorem zd_Tree_threshold_22 : decode prog_1_method_10_code 22 = .ok (.ifCond .ne 8, 3) := by decide +kernel
theorem zd_Tree_threshold_25 : decode prog_1_method_10_code 25 = .ok (.aload_n 3, 1) := by decide +kernel
theorem zd_Tree_threshold_26 : decode prog_1_method_10_code 26 = .ok (.getfield 143, 3) := by decide +kernel
theorem zd_Tree_threshold_29 : decode prog_1_method_10_code 29 = .ok (.ireturn, 1) := by decide +kernel
theorem zd_Tree_threshold_30 : decode prog_1_method_10_code 30 = .ok (.aload_n 3, 1) := by decide +kernel
theorem zd_Tree_threshold_31 : decode prog_1_method_10_code 31 = .ok (.iload_n 2, 1) := by decide +kernel
theorem zd_Tree_threshold_32 : decode prog_1_method_10_code 32 = .ok (.invokevirtual 131, 3) := by decide +kernel
theorem zd_Tree_threshold_35 : decode prog_1_method_10_code 35 = .ok (.ifCond .eq 17, 3) := by decide +kernel
theorem zd_Tree_threshold_38 : decode prog_1_method_10_code 38 = .ok (.aload_n 3, 1) := by decide +kernel
theorem zd_Tree_threshold_39 : decode prog_1_method_10_code 39 = .ok (.getfield 134, 3) := by decide +kernel
theorem zd_Tree_threshold_42 : decode prog_1_method_10_code 42 = .ok (.iload_n 2, 1) := by decide +kernel
theorem zd_Tree_threshold_43 : decode prog_1_method_10_code 43 = .ok (.iconst 1, 1) := by decide +kernel
theorem zd_Tree_threshold_44 : decode prog_1_method_10_code 44 = .ok (.isub, 1) := by decide +kernel
theorem zd_Tree_threshold_45 : decode prog_1_method_10_code 45 = .ok (.aaload, 1) := by decide +kernel
theorem zd_Tree_threshold_46 : decode prog_1_method_10_code 46 = .ok (.getfield 146, 3) := by decide +kernel
theorem zd_Tree_threshold_49 : decode prog_1_method_10_code 49 = .ok (.goto 4, 3) := by decide +kernel
theorem zd_Tree_threshold_52 : decode prog_1_method_10_code 52 = .ok (.iconst 0, 1) := by decide +kernel
theorem zd_Tree_threshold_53 : decode prog_1_method_10_code 53 = .ok (.ireturn, 1) := by decide +kernel
def zm_Tree_gain : zg_M := (⟨"SurrogateTree", "gain", "(I)J"⟩, prog_1_method_11_code, 3, (some .long))
theorem zd_Tree_gain_0 : decode prog_1_method_11_code 0 = .ok (.aload_n 0, 1) := by decide +kernel
theorem zd_Tree_gain_1 : decode prog_1_method_11_code 1 = .ok (.getfield 122, 3) := by decide +kernel
theorem zd_Tree_gain_4 : decode prog_1_method_11_code 4 = .ok (.iload_n 1, 1) := by decide +kernel
theorem zd_Tree_gain_5 : decode prog_1_method_11_code 5 = .ok (.invokevirtual 125, 3) := by decide +kernel
theorem zd_Tree_gain_8 : decode prog_1_method_11_code 8 = .ok (.iconst 2, 1) := by decide +kernel
theorem zd_Tree_gain_9 : decode prog_1_method_11_code 9 = .ok (.if_icmp .eq 5, 3) := by decide +kernel
theorem zd_Tree_gain_12 : decode prog_1_method_11_code 12 = .ok (.lconst 0, 1) := by decide +kernel
theorem zd_Tree_gain_13 : decode prog_1_method_11_code 13 = .ok (.lreturn, 1) := by decide +kernel
theorem zd_Tree_gain_14 : decode prog_1_method_11_code 14 = .ok (.aload_n 0, 1) := by decide +kernel
theorem zd_Tree_gain_15 : decode prog_1_method_11_code 15 = .ok (.getfield 25, 3) := by decide +kernel
theorem zd_Tree_gain_18 : decode prog_1_method_11_code 18 = .ok (.iload_n 1, 1) := by decide +kernel
theorem zd_Tree_gain_19 : decode prog_1_method_11_code 19 = .ok (.aaload, 1) := by decide +kernel
theorem zd_Tree_gain_20 : decode prog_1_method_11_code 20 = .ok (.getfield 147, 3) := by decide +kernel
theorem zd_Tree_gain_23 : decode prog_1_method_11_code 23 = .ok (.astore_n 2, 1) := by decide +kernel
theorem zd_Tree_gain_24 : decode prog_1_method_11_code 24 = .ok (.aload_n 2, 1) := by decide +kernel
theorem zd_Tree_gain_25 : decode prog_1_method_11_code 25 = .ok (.getfield 151, 3) := by decide +kernel
theorem zd_Tree_gain_28 : decode prog_1_method_11_code 28 = .ok (.ldc2_w 157, 3) := by decide +kernel
theorem zd_Tree_gain_31 : decode prog_1_method_11_code 31 = .ok (.lmul, 1) := by decide +kernel
theorem zd_Tree_gain_32 : decode prog_1_method_11_code 32 = .ok (.aload_n 2, 1) := by decide +kernel
theorem zd_Tree_gain_33 : decode prog_1_method_11_code 33 = .ok (.getfield 159, 3) := by decide +kernel
theorem zd_Tree_gain_36 : decode prog_1_method_11_code 36 = .ok (.ladd, 1) := by decide +kernel
theorem zd_Tree_gain_37 : decode prog_1_method_11_code 37 = .ok (.lreturn, 1) := by decide +kernel
def zm_Tree_rowsOf : zg_M := (⟨"SurrogateTree", "rowsOf", "(I)I"⟩, prog_1_method_12_code, 2, (some .int))
theorem zd_Tree_rowsOf_0 : decode prog_1_method_12_code 0 = .ok (.aload_n 0, 1) := by decide +kernel
theorem zd_Tree_rowsOf_1 : decode prog_1_method_12_code 1 = .ok (.getfield 122, 3) := by decide +kernel
theorem zd_Tree_rowsOf_4 : decode prog_1_method_12_code 4 = .ok (.iload_n 1, 1) := by decide +kernel
theorem zd_Tree_rowsOf_5 : decode prog_1_method_12_code 5 = .ok (.invokevirtual 125, 3) := by decide +kernel
theorem zd_Tree_rowsOf_8 : decode prog_1_method_12_code 8 = .ok (.iconst (-1), 1) := by decide +kernel
theorem zd_Tree_rowsOf_9 : decode prog_1_method_12_code 9 = .ok (.if_icmp .ne 7, 3) := by decide +kernel
theorem zd_Tree_rowsOf_12 : decode prog_1_method_12_code 12 = .ok (.iconst (-1), 1) := by decide +kernel
theorem zd_Tree_rowsOf_13 : decode prog_1_method_12_code 13 = .ok (.goto 12, 3) := by decide +kernel
theorem zd_Tree_rowsOf_16 : decode prog_1_method_12_code 16 = .ok (.aload_n 0, 1) := by decide +kernel
theorem zd_Tree_rowsOf_17 : decode prog_1_method_12_code 17 = .ok (.getfield 25, 3) := by decide +kernel
theorem zd_Tree_rowsOf_20 : decode prog_1_method_12_code 20 = .ok (.iload_n 1, 1) := by decide +kernel
theorem zd_Tree_rowsOf_21 : decode prog_1_method_12_code 21 = .ok (.aaload, 1) := by decide +kernel
theorem zd_Tree_rowsOf_22 : decode prog_1_method_12_code 22 = .ok (.getfield 162, 3) := by decide +kernel
theorem zd_Tree_rowsOf_25 : decode prog_1_method_12_code 25 = .ok (.ireturn, 1) := by decide +kernel
def zm_Tree_classOf : zg_M := (⟨"SurrogateTree", "classOf", "(I)I"⟩, prog_1_method_13_code, 2, (some .int))
theorem zd_Tree_classOf_0 : decode prog_1_method_13_code 0 = .ok (.aload_n 0, 1) := by decide +kernel
theorem zd_Tree_classOf_1 : decode prog_1_method_13_code 1 = .ok (.getfield 122, 3) := by decide +kernel
theorem zd_Tree_classOf_4 : decode prog_1_method_13_code 4 = .ok (.iload_n 1, 1) := by decide +kernel
theorem zd_Tree_classOf_5 : decode prog_1_method_13_code 5 = .ok (.invokevirtual 125, 3) := by decide +kernel
theorem zd_Tree_classOf_8 : decode prog_1_method_13_code 8 = .ok (.iconst (-1), 1) := by decide +kernel
theorem zd_Tree_classOf_9 : decode prog_1_method_13_code 9 = .ok (.if_icmp .ne 7, 3) := by decide +kernel
theorem zd_Tree_classOf_12 : decode prog_1_method_13_code 12 = .ok (.iconst (-1), 1) := by decide +kernel
theorem zd_Tree_classOf_13 : decode prog_1_method_13_code 13 = .ok (.goto 12, 3) := by decide +kernel
theorem zd_Tree_classOf_16 : decode prog_1_method_13_code 16 = .ok (.aload_n 0, 1) := by decide +kernel
theorem zd_Tree_classOf_17 : decode prog_1_method_13_code 17 = .ok (.getfield 25, 3) := by decide +kernel
theorem zd_Tree_classOf_20 : decode prog_1_method_13_code 20 = .ok (.iload_n 1, 1) := by decide +kernel
theorem zd_Tree_classOf_21 : decode prog_1_method_13_code 21 = .ok (.aaload, 1) := by decide +kernel
theorem zd_Tree_classOf_22 : decode prog_1_method_13_code 22 = .ok (.getfield 165, 3) := by decide +kernel
theorem zd_Tree_classOf_25 : decode prog_1_method_13_code 25 = .ok (.ireturn, 1) := by decide +kernel
def zm_Tree_error : zg_M := (⟨"SurrogateTree", "error", "(I)I"⟩, prog_1_method_14_code, 2, (some .int))
theorem zd_Tree_error_0 : decode prog_1_method_14_code 0 = .ok (.aload_n 0, 1) := by decide +kernel
theorem zd_Tree_error_1 : decode prog_1_method_14_code 1 = .ok (.getfield 122, 3) := by decide +kernel
theorem zd_Tree_error_4 : decode prog_1_method_14_code 4 = .ok (.iload_n 1, 1) := by decide +kernel
theorem zd_Tree_error_5 : decode prog_1_method_14_code 5 = .ok (.invokevirtual 125, 3) := by decide +kernel
theorem zd_Tree_error_8 : decode prog_1_method_14_code 8 = .ok (.iconst (-1), 1) := by decide +kernel
theorem zd_Tree_error_9 : decode prog_1_method_14_code 9 = .ok (.if_icmp .ne 7, 3) := by decide +kernel
theorem zd_Tree_error_12 : decode prog_1_method_14_code 12 = .ok (.iconst (-1), 1) := by decide +kernel
theorem zd_Tree_error_13 : decode prog_1_method_14_code 13 = .ok (.goto 12, 3) := by decide +kernel
theorem zd_Tree_error_16 : decode prog_1_method_14_code 16 = .ok (.aload_n 0, 1) := by decide +kernel
theorem zd_Tree_error_17 : decode prog_1_method_14_code 17 = .ok (.getfield 25, 3) := by decide +kernel
theorem zd_Tree_error_20 : decode prog_1_method_14_code 20 = .ok (.iload_n 1, 1) := by decide +kernel
theorem zd_Tree_error_21 : decode prog_1_method_14_code 21 = .ok (.aaload, 1) := by decide +kernel
theorem zd_Tree_error_22 : decode prog_1_method_14_code 22 = .ok (.getfield 168, 3) := by decide +kernel
theorem zd_Tree_error_25 : decode prog_1_method_14_code 25 = .ok (.ireturn, 1) := by decide +kernel
def zm_Tree_reach : zg_M := (⟨"SurrogateTree", "reach", "(III)I"⟩, prog_1_method_15_code, 4, (some .int))
theorem zd_Tree_reach_0 : decode prog_1_method_15_code 0 = .ok (.aload_n 0, 1) := by decide +kernel
theorem zd_Tree_reach_1 : decode prog_1_method_15_code 1 = .ok (.getfield 61, 3) := by decide +kernel
theorem zd_Tree_reach_4 : decode prog_1_method_15_code 4 = .ok (.iconst 0, 1) := by decide +kernel
theorem zd_Tree_reach_5 : decode prog_1_method_15_code 5 = .ok (.iload_n 1, 1) := by decide +kernel
theorem zd_Tree_reach_6 : decode prog_1_method_15_code 6 = .ok (.iastore, 1) := by decide +kernel
theorem zd_Tree_reach_7 : decode prog_1_method_15_code 7 = .ok (.aload_n 0, 1) := by decide +kernel
theorem zd_Tree_reach_8 : decode prog_1_method_15_code 8 = .ok (.getfield 61, 3) := by decide +kernel
theorem zd_Tree_reach_11 : decode prog_1_method_15_code 11 = .ok (.iconst 1, 1) := by decide +kernel
theorem zd_Tree_reach_12 : decode prog_1_method_15_code 12 = .ok (.iload_n 2, 1) := by decide +kernel
theorem zd_Tree_reach_13 : decode prog_1_method_15_code 13 = .ok (.iastore, 1) := by decide +kernel
theorem zd_Tree_reach_14 : decode prog_1_method_15_code 14 = .ok (.aload_n 0, 1) := by decide +kernel
theorem zd_Tree_reach_15 : decode prog_1_method_15_code 15 = .ok (.getfield 61, 3) := by decide +kernel
theorem zd_Tree_reach_18 : decode prog_1_method_15_code 18 = .ok (.iconst 2, 1) := by decide +kernel
theorem zd_Tree_reach_19 : decode prog_1_method_15_code 19 = .ok (.iload_n 3, 1) := by decide +kernel
theorem zd_Tree_reach_20 : decode prog_1_method_15_code 20 = .ok (.iastore, 1) := by decide +kernel
theorem zd_Tree_reach_21 : decode prog_1_method_15_code 21 = .ok (.aload_n 0, 1) := by decide +kernel
theorem zd_Tree_reach_22 : decode prog_1_method_15_code 22 = .ok (.aload_n 0, 1) := by decide +kernel
theorem zd_Tree_reach_23 : decode prog_1_method_15_code 23 = .ok (.getfield 61, 3) := by decide +kernel
theorem zd_Tree_reach_26 : decode prog_1_method_15_code 26 = .ok (.invokevirtual 171, 3) := by decide +kernel
theorem zd_Tree_reach_29 : decode prog_1_method_15_code 29 = .ok (.ireturn, 1) := by decide +kernel
def zm_Tree_endOf : zg_M := (⟨"SurrogateTree", "endOf", "([I)I"⟩, prog_1_method_26_code, 4, (some .int))
theorem zd_Tree_endOf_0 : decode prog_1_method_26_code 0 = .ok (.iconst 1, 1) := by decide +kernel
theorem zd_Tree_endOf_1 : decode prog_1_method_26_code 1 = .ok (.istore_n 2, 1) := by decide +kernel
theorem zd_Tree_endOf_2 : decode prog_1_method_26_code 2 = .ok (.iconst 0, 1) := by decide +kernel
theorem zd_Tree_endOf_3 : decode prog_1_method_26_code 3 = .ok (.istore_n 3, 1) := by decide +kernel
theorem zd_Tree_endOf_4 : decode prog_1_method_26_code 4 = .ok (.iload_n 3, 1) := by decide +kernel
theorem zd_Tree_endOf_5 : decode prog_1_method_26_code 5 = .ok (.iconst 4, 1) := by decide +kernel
theorem zd_Tree_endOf_6 : decode prog_1_method_26_code 6 = .ok (.if_icmp .ge 46, 3) := by decide +kernel
theorem zd_Tree_endOf_9 : decode prog_1_method_26_code 9 = .ok (.aload_n 0, 1) := by decide +kernel
theorem zd_Tree_endOf_10 : decode prog_1_method_26_code 10 = .ok (.getfield 122, 3) := by decide +kernel
theorem zd_Tree_endOf_13 : decode prog_1_method_26_code 13 = .ok (.iload_n 2, 1) := by decide +kernel
theorem zd_Tree_endOf_14 : decode prog_1_method_26_code 14 = .ok (.invokevirtual 125, 3) := by decide +kernel
theorem zd_Tree_endOf_17 : decode prog_1_method_26_code 17 = .ok (.iconst 2, 1) := by decide +kernel
theorem zd_Tree_endOf_18 : decode prog_1_method_26_code 18 = .ok (.if_icmp .ne 34, 3) := by decide +kernel
theorem zd_Tree_endOf_21 : decode prog_1_method_26_code 21 = .ok (.aload_n 0, 1) := by decide +kernel
theorem zd_Tree_endOf_22 : decode prog_1_method_26_code 22 = .ok (.getfield 25, 3) := by decide +kernel
theorem zd_Tree_endOf_25 : decode prog_1_method_26_code 25 = .ok (.iload_n 2, 1) := by decide +kernel
theorem zd_Tree_endOf_26 : decode prog_1_method_26_code 26 = .ok (.aaload, 1) := by decide +kernel
theorem zd_Tree_endOf_27 : decode prog_1_method_26_code 27 = .ok (.aload_n 1, 1) := by decide +kernel
theorem zd_Tree_endOf_28 : decode prog_1_method_26_code 28 = .ok (.invokevirtual 234, 3) := by decide +kernel
theorem zd_Tree_endOf_31 : decode prog_1_method_26_code 31 = .ok (.ifCond .eq 9, 3) := by decide +kernel
theorem zd_Tree_endOf_34 : decode prog_1_method_26_code 34 = .ok (.iconst 2, 1) := by decide +kernel
theorem zd_Tree_endOf_35 : decode prog_1_method_26_code 35 = .ok (.iload_n 2, 1) := by decide +kernel
theorem zd_Tree_endOf_36 : decode prog_1_method_26_code 36 = .ok (.imul, 1) := by decide +kernel
theorem zd_Tree_endOf_37 : decode prog_1_method_26_code 37 = .ok (.goto 8, 3) := by decide +kernel
theorem zd_Tree_endOf_40 : decode prog_1_method_26_code 40 = .ok (.iconst 2, 1) := by decide +kernel
theorem zd_Tree_endOf_41 : decode prog_1_method_26_code 41 = .ok (.iload_n 2, 1) := by decide +kernel
theorem zd_Tree_endOf_42 : decode prog_1_method_26_code 42 = .ok (.imul, 1) := by decide +kernel
theorem zd_Tree_endOf_43 : decode prog_1_method_26_code 43 = .ok (.iconst 1, 1) := by decide +kernel
theorem zd_Tree_endOf_44 : decode prog_1_method_26_code 44 = .ok (.iadd, 1) := by decide +kernel
theorem zd_Tree_endOf_45 : decode prog_1_method_26_code 45 = .ok (.istore_n 2, 1) := by decide +kernel
theorem zd_Tree_endOf_46 : decode prog_1_method_26_code 46 = .ok (.iinc 3 1, 3) := by decide +kernel
theorem zd_Tree_endOf_49 : decode prog_1_method_26_code 49 = .ok (.goto (-45), 3) := by decide +kernel
theorem zd_Tree_endOf_52 : decode prog_1_method_26_code 52 = .ok (.iload_n 2, 1) := by decide +kernel
theorem zd_Tree_endOf_53 : decode prog_1_method_26_code 53 = .ok (.ireturn, 1) := by decide +kernel
def zm_Tree_cut : zg_M := (⟨"SurrogateTree", "cut", "(II)I"⟩, prog_1_method_16_code, 3, (some .int))
theorem zd_Tree_cut_0 : decode prog_1_method_16_code 0 = .ok (.aload_n 0, 1) := by decide +kernel
theorem zd_Tree_cut_1 : decode prog_1_method_16_code 1 = .ok (.getfield 33, 3) := by decide +kernel
theorem zd_Tree_cut_4 : decode prog_1_method_16_code 4 = .ok (.invokevirtual 116, 3) := by decide +kernel
theorem zd_Tree_cut_7 : decode prog_1_method_16_code 7 = .ok (.ifCond .ne 17, 3) := by decide +kernel
theorem zd_Tree_cut_10 : decode prog_1_method_16_code 10 = .ok (.iload_n 1, 1) := by decide +kernel
theorem zd_Tree_cut_11 : decode prog_1_method_16_code 11 = .ok (.invokestatic 175, 3) := by decide +kernel
theorem zd_Tree_cut_14 : decode prog_1_method_16_code 14 = .ok (.ifCond .eq 10, 3) := by decide +kernel
theorem zd_Tree_cut_17 : decode prog_1_method_16_code 17 = .ok (.iload_n 2, 1) := by decide +kernel
theorem zd_Tree_cut_18 : decode prog_1_method_16_code 18 = .ok (.invokestatic 175, 3) := by decide +kernel
theorem zd_Tree_cut_21 : decode prog_1_method_16_code 21 = .ok (.ifCond .ne 5, 3) := by decide +kernel
theorem zd_Tree_cut_24 : decode prog_1_method_16_code 24 = .ok (.iconst (-1), 1) := by decide +kernel
theorem zd_Tree_cut_25 : decode prog_1_method_16_code 25 = .ok (.ireturn, 1) := by decide +kernel
theorem zd_Tree_cut_26 : decode prog_1_method_16_code 26 = .ok (.iload_n 2, 1) := by decide +kernel
theorem zd_Tree_cut_27 : decode prog_1_method_16_code 27 = .ok (.ifCond .ne 14, 3) := by decide +kernel
theorem zd_Tree_cut_30 : decode prog_1_method_16_code 30 = .ok (.aload_n 0, 1) := by decide +kernel
theorem zd_Tree_cut_31 : decode prog_1_method_16_code 31 = .ok (.aload_n 0, 1) := by decide +kernel
theorem zd_Tree_cut_32 : decode prog_1_method_16_code 32 = .ok (.getfield 33, 3) := by decide +kernel
theorem zd_Tree_cut_35 : decode prog_1_method_16_code 35 = .ok (.putfield 122, 3) := by decide +kernel
theorem zd_Tree_cut_38 : decode prog_1_method_16_code 38 = .ok (.goto 32, 3) := by decide +kernel
theorem zd_Tree_cut_41 : decode prog_1_method_16_code 41 = .ok (.aload_n 0, 1) := by decide +kernel
theorem zd_Tree_cut_42 : decode prog_1_method_16_code 42 = .ok (.getfield 57, 3) := by decide +kernel
theorem zd_Tree_cut_45 : decode prog_1_method_16_code 45 = .ok (.aload_n 0, 1) := by decide +kernel
theorem zd_Tree_cut_46 : decode prog_1_method_16_code 46 = .ok (.getfield 33, 3) := by decide +kernel
theorem zd_Tree_cut_49 : decode prog_1_method_16_code 49 = .ok (.aload_n 0, 1) := by decide +kernel
theorem zd_Tree_cut_50 : decode prog_1_method_16_code 50 = .ok (.getfield 25, 3) := by decide +kernel
theorem zd_Tree_cut_53 : decode prog_1_method_16_code 53 = .ok (.iload_n 1, 1) := by decide +kernel
theorem zd_Tree_cut_54 : decode prog_1_method_16_code 54 = .ok (.iload_n 2, 1) := by decide +kernel
theorem zd_Tree_cut_55 : decode prog_1_method_16_code 55 = .ok (.aload_n 0, 1) := by decide +kernel
theorem zd_Tree_cut_56 : decode prog_1_method_16_code 56 = .ok (.getfield 37, 3) := by decide +kernel
theorem zd_Tree_cut_59 : decode prog_1_method_16_code 59 = .ok (.invokevirtual 178, 3) := by decide +kernel
theorem zd_Tree_cut_62 : decode prog_1_method_16_code 62 = .ok (.aload_n 0, 1) := by decide +kernel
theorem zd_Tree_cut_63 : decode prog_1_method_16_code 63 = .ok (.aload_n 0, 1) := by decide +kernel
theorem zd_Tree_cut_64 : decode prog_1_method_16_code 64 = .ok (.getfield 37, 3) := by decide +kernel
theorem zd_Tree_cut_67 : decode prog_1_method_16_code 67 = .ok (.putfield 122, 3) := by decide +kernel
theorem zd_Tree_cut_70 : decode prog_1_method_16_code 70 = .ok (.aload_n 0, 1) := by decide +kernel
theorem zd_Tree_cut_71 : decode prog_1_method_16_code 71 = .ok (.getfield 122, 3) := by decide +kernel
theorem zd_Tree_cut_74 : decode prog_1_method_16_code 74 = .ok (.invokevirtual 182, 3) := by decide +kernel
theorem zd_Tree_cut_77 : decode prog_1_method_16_code 77 = .ok (.ireturn, 1) := by decide +kernel
def zm_Tree_isCutTerm : zg_M := (⟨"SurrogateTree", "isCutTerm", "(I)Z"⟩, prog_1_method_22_code, 1, (some .boolean))
theorem zd_Tree_isCutTerm_0 : decode prog_1_method_22_code 0 = .ok (.iload_n 0, 1) := by decide +kernel
theorem zd_Tree_isCutTerm_1 : decode prog_1_method_22_code 1 = .ok (.ifCond .lt 14, 3) := by decide +kernel
theorem zd_Tree_isCutTerm_4 : decode prog_1_method_22_code 4 = .ok (.iload_n 0, 1) := by decide +kernel
theorem zd_Tree_isCutTerm_5 : decode prog_1_method_22_code 5 = .ok (.sipush 1000, 3) := by decide +kernel
theorem zd_Tree_isCutTerm_8 : decode prog_1_method_22_code 8 = .ok (.if_icmp .gt 7, 3) := by decide +kernel
theorem zd_Tree_isCutTerm_11 : decode prog_1_method_22_code 11 = .ok (.iconst 1, 1) := by decide +kernel
theorem zd_Tree_isCutTerm_12 : decode prog_1_method_22_code 12 = .ok (.goto 4, 3) := by decide +kernel
theorem zd_Tree_isCutTerm_15 : decode prog_1_method_22_code 15 = .ok (.iconst 0, 1) := by decide +kernel
theorem zd_Tree_isCutTerm_16 : decode prog_1_method_22_code 16 = .ok (.ireturn, 1) := by decide +kernel
def zm_Cutter_trim : zg_M := (⟨"SurrogateTree$Cutter", "trim", "(LSurrogateTree$Shape;[LSurrogateTree$Node;IILSurrogateTree$Shape;)V"⟩, prog_3_method_2_code, 9, none)
theorem zd_Cutter_trim_0 : decode prog_3_method_2_code 0 = .ok (.bipush 31, 2) := by decide +kernel
theorem zd_Cutter_trim_2 : decode prog_3_method_2_code 2 = .ok (.istore 6, 2) := by decide +kernel
theorem zd_Cutter_trim_4 : decode prog_3_method_2_code 4 = .ok (.iload 6, 2) := by decide +kernel
theorem zd_Cutter_trim_6 : decode prog_3_method_2_code 6 = .ok (.iconst 1, 1) := by decide +kernel
theorem zd_Cutter_trim_7 : decode prog_3_method_2_code 7 = .ok (.if_icmp .lt 113, 3) := by decide +kernel
theorem zd_Cutter_trim_10 : decode prog_3_method_2_code 10 = .ok (.aload_n 1, 1) := by decide +kernel
theorem zd_Cutter_trim_11 : decode prog_3_method_2_code 11 = .ok (.iload 6, 2) := by decide +kernel
theorem zd_Cutter_trim_13 : decode prog_3_method_2_code 13 = .ok (.invokevirtual 38, 3) := by decide +kernel
theorem zd_Cutter_trim_16 : decode prog_3_method_2_code 16 = .ok (.istore 7, 2) := by decide +kernel
theorem zd_Cutter_trim_18 : decode prog_3_method_2_code 18 = .ok (.aload_n 0, 1) := by decide +kernel
theorem zd_Cutter_trim_19 : decode prog_3_method_2_code 19 = .ok (.getfield 28, 3) := by decide +kernel
theorem zd_Cutter_trim_22 : decode prog_3_method_2_code 22 = .ok (.iload 6, 2) := by decide +kernel
theorem zd_Cutter_trim_24 : decode prog_3_method_2_code 24 = .ok (.aload_n 2, 1) := by decide +kernel
theorem zd_Cutter_trim_25 : decode prog_3_method_2_code 25 = .ok (.iload 6, 2) := by decide +kernel
theorem zd_Cutter_trim_27 : decode prog_3_method_2_code 27 = .ok (.aaload, 1) := by decide +kernel
theorem zd_Cutter_trim_28 : decode prog_3_method_2_code 28 = .ok (.getfield 42, 3) := by decide +kernel
theorem zd_Cutter_trim_31 : decode prog_3_method_2_code 31 = .ok (.iload 4, 2) := by decide +kernel
theorem zd_Cutter_trim_33 : decode prog_3_method_2_code 33 = .ok (.imul, 1) := by decide +kernel
theorem zd_Cutter_trim_34 : decode prog_3_method_2_code 34 = .ok (.iload_n 3, 1) := by decide +kernel
theorem zd_Cutter_trim_35 : decode prog_3_method_2_code 35 = .ok (.iadd, 1) := by decide +kernel
theorem zd_Cutter_trim_36 : decode prog_3_method_2_code 36 = .ok (.iastore, 1) := by decide +kernel
theorem zd_Cutter_trim_37 : decode prog_3_method_2_code 37 = .ok (.iload 7, 2) := by decide +kernel
theorem zd_Cutter_trim_39 : decode prog_3_method_2_code 39 = .ok (.iconst 2, 1) := by decide +kernel
theorem zd_Cutter_trim_40 : decode prog_3_method_2_code 40 = .ok (.if_icmp .ne 64, 3) := by decide +kernel
theorem zd_Cutter_trim_43 : decode prog_3_method_2_code 43 = .ok (.iconst 2, 1) := by decide +kernel
theorem zd_Cutter_trim_44 : decode prog_3_method_2_code 44 = .ok (.iload 6, 2) := by decide +kernel
theorem zd_Cutter_trim_46 : decode prog_3_method_2_code 46 = .ok (.imul, 1) := by decide +kernel
theorem zd_Cutter_trim_47 : decode prog_3_method_2_code 47 = .ok (.iconst 1, 1) := by decide +kernel
theorem zd_Cutter_trim_48 : decode prog_3_method_2_code 48 = .ok (.iadd, 1) := by decide +kernel
theorem zd_Cutter_trim_49 : decode prog_3_method_2_code 49 = .ok (.bipush 32, 2) := by decide +kernel
theorem zd_Cutter_trim_51 : decode prog_3_method_2_code 51 = .ok (.if_icmp .ge 53, 3) := by decide +kernel
theorem zd_Cutter_trim_54 : decode prog_3_method_2_code 54 = .ok (.aload_n 0, 1) := by decide +kernel
theorem zd_Cutter_trim_55 : decode prog_3_method_2_code 55 = .ok (.getfield 28, 3) := by decide +kernel
theorem zd_Cutter_trim_58 : decode prog_3_method_2_code 58 = .ok (.iconst 2, 1) := by decide +kernel
theorem zd_Cutter_trim_59 : decode prog_3_method_2_code 59 = .ok (.iload 6, 2) := by decide +kernel
theorem zd_Cutter_trim_61 : decode prog_3_method_2_code 61 = .ok (.imul, 1) := by decide +kernel
theorem zd_Cutter_trim_62 : decode prog_3_method_2_code 62 = .ok (.iaload, 1) := by decide +kernel
theorem zd_Cutter_trim_63 : decode prog_3_method_2_code 63 = .ok (.aload_n 0, 1) := by decide +kernel
theorem zd_Cutter_trim_64 : decode prog_3_method_2_code 64 = .ok (.getfield 28, 3) := by decide +kernel
theorem zd_Cutter_trim_67 : decode prog_3_method_2_code 67 = .ok (.iconst 2, 1) := by decide +kernel
theorem zd_Cutter_trim_68 : decode prog_3_method_2_code 68 = .ok (.iload 6, 2) := by decide +kernel
theorem zd_Cutter_trim_70 : decode prog_3_method_2_code 70 = .ok (.imul, 1) := by decide +kernel
theorem zd_Cutter_trim_71 : decode prog_3_method_2_code 71 = .ok (.iconst 1, 1) := by decide +kernel
theorem zd_Cutter_trim_72 : decode prog_3_method_2_code 72 = .ok (.iadd, 1) := by decide +kernel
theorem zd_Cutter_trim_73 : decode prog_3_method_2_code 73 = .ok (.iaload, 1) := by decide +kernel
theorem zd_Cutter_trim_74 : decode prog_3_method_2_code 74 = .ok (.iadd, 1) := by decide +kernel
theorem zd_Cutter_trim_75 : decode prog_3_method_2_code 75 = .ok (.istore 8, 2) := by decide +kernel
theorem zd_Cutter_trim_77 : decode prog_3_method_2_code 77 = .ok (.iload 8, 2) := by decide +kernel
theorem zd_Cutter_trim_79 : decode prog_3_method_2_code 79 = .ok (.aload_n 0, 1) := by decide +kernel
theorem zd_Cutter_trim_80 : decode prog_3_method_2_code 80 = .ok (.getfield 28, 3) := by decide +kernel
theorem zd_Cutter_trim_83 : decode prog_3_method_2_code 83 = .ok (.iload 6, 2) := by decide +kernel
theorem zd_Cutter_trim_85 : decode prog_3_method_2_code 85 = .ok (.iaload, 1) := by decide +kernel
theorem zd_Cutter_trim_86 : decode prog_3_method_2_code 86 = .ok (.if_icmp .ge 15, 3) := by decide +kernel
theorem zd_Cutter_trim_89 : decode prog_3_method_2_code 89 = .ok (.aload_n 0, 1) := by decide +kernel
theorem zd_Cutter_trim_90 : decode prog_3_method_2_code 90 = .ok (.getfield 28, 3) := by decide +kernel
theorem zd_Cutter_trim_93 : decode prog_3_method_2_code 93 = .ok (.iload 6, 2) := by decide +kernel
theorem zd_Cutter_trim_95 : decode prog_3_method_2_code 95 = .ok (.iload 8, 2) := by decide +kernel
theorem zd_Cutter_trim_97 : decode prog_3_method_2_code 97 = .ok (.iastore, 1) := by decide +kernel
theorem zd_Cutter_trim_98 : decode prog_3_method_2_code 98 = .ok (.goto 6, 3) := by decide +kernel
theorem zd_Cutter_trim_101 : decode prog_3_method_2_code 101 = .ok (.iconst 1, 1) := by decide +kernel
theorem zd_Cutter_trim_102 : decode prog_3_method_2_code 102 = .ok (.istore 7, 2) := by decide +kernel
theorem zd_Cutter_trim_104 : decode prog_3_method_2_code 104 = .ok (.aload 5, 2) := by decide +kernel
theorem zd_Cutter_trim_106 : decode prog_3_method_2_code 106 = .ok (.getfield 48, 3) := by decide +kernel
theorem zd_Cutter_trim_109 : decode prog_3_method_2_code 109 = .ok (.iload 6, 2) := by decide +kernel
theorem zd_Cutter_trim_111 : decode prog_3_method_2_code 111 = .ok (.iload 7, 2) := by decide +kernel
theorem zd_Cutter_trim_113 : decode prog_3_method_2_code 113 = .ok (.iastore, 1) := by decide +kernel
theorem zd_Cutter_trim_114 : decode prog_3_method_2_code 114 = .ok (.iinc 6 (-1), 3) := by decide +kernel
theorem zd_Cutter_trim_117 : decode prog_3_method_2_code 117 = .ok (.goto (-113), 3) := by decide +kernel
theorem zd_Cutter_trim_120 : decode prog_3_method_2_code 120 = .ok (.aload 5, 2) := by decide +kernel
theorem zd_Cutter_trim_122 : decode prog_3_method_2_code 122 = .ok (.invokevirtual 51, 3) := by decide +kernel
theorem zd_Cutter_trim_125 : decode prog_3_method_2_code 125 = .ok (.return_, 1) := by decide +kernel
def zm_Tree_breakAt : zg_M := (⟨"SurrogateTree", "breakAt", "(I)I"⟩, prog_1_method_17_code, 2, (some .int))
theorem zd_Tree_breakAt_0 : decode prog_1_method_17_code 0 = .ok (.aload_n 0, 1) := by decide +kernel
theorem zd_Tree_breakAt_1 : decode prog_1_method_17_code 1 = .ok (.getfield 33, 3) := by decide +kernel
theorem zd_Tree_breakAt_4 : decode prog_1_method_17_code 4 = .ok (.invokevirtual 116, 3) := by decide +kernel
theorem zd_Tree_breakAt_7 : decode prog_1_method_17_code 7 = .ok (.ifCond .ne 13, 3) := by decide +kernel
theorem zd_Tree_breakAt_10 : decode prog_1_method_17_code 10 = .ok (.iload_n 1, 1) := by decide +kernel
theorem zd_Tree_breakAt_11 : decode prog_1_method_17_code 11 = .ok (.ifCond .lt 9, 3) := by decide +kernel
theorem zd_Tree_breakAt_14 : decode prog_1_method_17_code 14 = .ok (.iload_n 1, 1) := by decide +kernel
theorem zd_Tree_breakAt_15 : decode prog_1_method_17_code 15 = .ok (.bipush 15, 2) := by decide +kernel
theorem zd_Tree_breakAt_17 : decode prog_1_method_17_code 17 = .ok (.if_icmp .lt 5, 3) := by decide +kernel
theorem zd_Tree_breakAt_20 : decode prog_1_method_17_code 20 = .ok (.iconst (-1), 1) := by decide +kernel
theorem zd_Tree_breakAt_21 : decode prog_1_method_17_code 21 = .ok (.ireturn, 1) := by decide +kernel
theorem zd_Tree_breakAt_22 : decode prog_1_method_17_code 22 = .ok (.aload_n 0, 1) := by decide +kernel
theorem zd_Tree_breakAt_23 : decode prog_1_method_17_code 23 = .ok (.getfield 57, 3) := by decide +kernel
theorem zd_Tree_breakAt_26 : decode prog_1_method_17_code 26 = .ok (.aload_n 0, 1) := by decide +kernel
theorem zd_Tree_breakAt_27 : decode prog_1_method_17_code 27 = .ok (.getfield 33, 3) := by decide +kernel
theorem zd_Tree_breakAt_30 : decode prog_1_method_17_code 30 = .ok (.aload_n 0, 1) := by decide +kernel
theorem zd_Tree_breakAt_31 : decode prog_1_method_17_code 31 = .ok (.getfield 25, 3) := by decide +kernel
theorem zd_Tree_breakAt_34 : decode prog_1_method_17_code 34 = .ok (.iload_n 1, 1) := by decide +kernel
theorem zd_Tree_breakAt_35 : decode prog_1_method_17_code 35 = .ok (.invokevirtual 185, 3) := by decide +kernel
theorem zd_Tree_breakAt_38 : decode prog_1_method_17_code 38 = .ok (.ifCond .ne 5, 3) := by decide +kernel
theorem zd_Tree_breakAt_41 : decode prog_1_method_17_code 41 = .ok (.iconst (-1), 1) := by decide +kernel
theorem zd_Tree_breakAt_42 : decode prog_1_method_17_code 42 = .ok (.ireturn, 1) := by decide +kernel
theorem zd_Tree_breakAt_43 : decode prog_1_method_17_code 43 = .ok (.aload_n 0, 1) := by decide +kernel
theorem zd_Tree_breakAt_44 : decode prog_1_method_17_code 44 = .ok (.getfield 57, 3) := by decide +kernel
theorem zd_Tree_breakAt_47 : decode prog_1_method_17_code 47 = .ok (.getfield 189, 3) := by decide +kernel
theorem zd_Tree_breakAt_50 : decode prog_1_method_17_code 50 = .ok (.getfield 151, 3) := by decide +kernel
theorem zd_Tree_breakAt_53 : decode prog_1_method_17_code 53 = .ok (.ldc2_w 192, 3) := by decide +kernel
theorem zd_Tree_breakAt_56 : decode prog_1_method_17_code 56 = .ok (.lmul, 1) := by decide +kernel
theorem zd_Tree_breakAt_57 : decode prog_1_method_17_code 57 = .ok (.aload_n 0, 1) := by decide +kernel
theorem zd_Tree_breakAt_58 : decode prog_1_method_17_code 58 = .ok (.getfield 57, 3) := by decide +kernel
theorem zd_Tree_breakAt_61 : decode prog_1_method_17_code 61 = .ok (.getfield 189, 3) := by decide +kernel
theorem zd_Tree_breakAt_64 : decode prog_1_method_17_code 64 = .ok (.getfield 159, 3) := by decide +kernel
theorem zd_Tree_breakAt_67 : decode prog_1_method_17_code 67 = .ok (.ladd, 1) := by decide +kernel
theorem zd_Tree_breakAt_68 : decode prog_1_method_17_code 68 = .ok (.l2i, 1) := by decide +kernel
theorem zd_Tree_breakAt_69 : decode prog_1_method_17_code 69 = .ok (.ireturn, 1) := by decide +kernel
def zm_Cutter_findBreak : zg_M := (⟨"SurrogateTree$Cutter", "findBreak", "(LSurrogateTree$Shape;[LSurrogateTree$Node;I)Z"⟩, prog_3_method_3_code, 6, (some .boolean))
theorem zd_Cutter_findBreak_0 : decode prog_3_method_3_code 0 = .ok (.aload_n 0, 1) := by decide +kernel
theorem zd_Cutter_findBreak_1 : decode prog_3_method_3_code 1 = .ok (.aload_n 1, 1) := by decide +kernel
theorem zd_Cutter_findBreak_2 : decode prog_3_method_3_code 2 = .ok (.aload_n 2, 1) := by decide +kernel
theorem zd_Cutter_findBreak_3 : decode prog_3_method_3_code 3 = .ok (.iconst 0, 1) := by decide +kernel
theorem zd_Cutter_findBreak_4 : decode prog_3_method_3_code 4 = .ok (.iconst 1, 1) := by decide +kernel
theorem zd_Cutter_findBreak_5 : decode prog_3_method_3_code 5 = .ok (.aload_n 0, 1) := by decide +kernel
theorem zd_Cutter_findBreak_6 : decode prog_3_method_3_code 6 = .ok (.getfield 21, 3) := by decide +kernel
theorem zd_Cutter_findBreak_9 : decode prog_3_method_3_code 9 = .ok (.invokevirtual 54, 3) := by decide +kernel
theorem zd_Cutter_findBreak_12 : decode prog_3_method_3_code 12 = .ok (.aload_n 0, 1) := by decide +kernel
theorem zd_Cutter_findBreak_13 : decode prog_3_method_3_code 13 = .ok (.aload_n 2, 1) := by decide +kernel
theorem zd_Cutter_findBreak_14 : decode prog_3_method_3_code 14 = .ok (.invokevirtual 58, 3) := by decide +kernel
theorem zd_Cutter_findBreak_17 : decode prog_3_method_3_code 17 = .ok (.istore 4, 2) := by decide +kernel
theorem zd_Cutter_findBreak_19 : decode prog_3_method_3_code 19 = .ok (.iconst 0, 1) := by decide +kernel
theorem zd_Cutter_findBreak_20 : decode prog_3_method_3_code 20 = .ok (.istore 5, 2) := by decide +kernel
theorem zd_Cutter_findBreak_22 : decode prog_3_method_3_code 22 = .ok (.iload 5, 2) := by decide +kernel
theorem zd_Cutter_findBreak_24 : decode prog_3_method_3_code 24 = .ok (.iload_n 3, 1) := by decide +kernel
theorem zd_Cutter_findBreak_25 : decode prog_3_method_3_code 25 = .ok (.if_icmp .ge 47, 3) := by decide +kernel
theorem zd_Cutter_findBreak_28 : decode prog_3_method_3_code 28 = .ok (.iload 4, 2) := by decide +kernel
theorem zd_Cutter_findBreak_30 : decode prog_3_method_3_code 30 = .ok (.ifCond .eq 42, 3) := by decide +kernel
theorem zd_Cutter_findBreak_33 : decode prog_3_method_3_code 33 = .ok (.aload_n 0, 1) := by decide +kernel
theorem zd_Cutter_findBreak_34 : decode prog_3_method_3_code 34 = .ok (.aload_n 1, 1) := by decide +kernel
theorem zd_Cutter_findBreak_35 : decode prog_3_method_3_code 35 = .ok (.aload_n 2, 1) := by decide +kernel
theorem zd_Cutter_findBreak_36 : decode prog_3_method_3_code 36 = .ok (.aload_n 0, 1) := by decide +kernel
theorem zd_Cutter_findBreak_37 : decode prog_3_method_3_code 37 = .ok (.getfield 12, 3) := by decide +kernel
theorem zd_Cutter_findBreak_40 : decode prog_3_method_3_code 40 = .ok (.getfield 62, 3) := by decide +kernel
theorem zd_Cutter_findBreak_43 : decode prog_3_method_3_code 43 = .ok (.l2i, 1) := by decide +kernel
theorem zd_Cutter_findBreak_44 : decode prog_3_method_3_code 44 = .ok (.aload_n 0, 1) := by decide +kernel
theorem zd_Cutter_findBreak_45 : decode prog_3_method_3_code 45 = .ok (.getfield 12, 3) := by decide +kernel
theorem zd_Cutter_findBreak_48 : decode prog_3_method_3_code 48 = .ok (.getfield 66, 3) := by decide +kernel
theorem zd_Cutter_findBreak_51 : decode prog_3_method_3_code 51 = .ok (.l2i, 1) := by decide +kernel
theorem zd_Cutter_findBreak_52 : decode prog_3_method_3_code 52 = .ok (.aload_n 0, 1) := by decide +kernel
theorem zd_Cutter_findBreak_53 : decode prog_3_method_3_code 53 = .ok (.getfield 21, 3) := by decide +kernel
theorem zd_Cutter_findBreak_56 : decode prog_3_method_3_code 56 = .ok (.invokevirtual 54, 3) := by decide +kernel
theorem zd_Cutter_findBreak_59 : decode prog_3_method_3_code 59 = .ok (.aload_n 0, 1) := by decide +kernel
theorem zd_Cutter_findBreak_60 : decode prog_3_method_3_code 60 = .ok (.aload_n 2, 1) := by decide +kernel
theorem zd_Cutter_findBreak_61 : decode prog_3_method_3_code 61 = .ok (.invokevirtual 58, 3) := by decide +kernel
theorem zd_Cutter_findBreak_64 : decode prog_3_method_3_code 64 = .ok (.istore 4, 2) := by decide +kernel
theorem zd_Cutter_findBreak_66 : decode prog_3_method_3_code 66 = .ok (.iinc 5 1, 3) := by decide +kernel
theorem zd_Cutter_findBreak_69 : decode prog_3_method_3_code 69 = .ok (.goto (-47), 3) := by decide +kernel
theorem zd_Cutter_findBreak_72 : decode prog_3_method_3_code 72 = .ok (.iload 4, 2) := by decide +kernel
theorem zd_Cutter_findBreak_74 : decode prog_3_method_3_code 74 = .ok (.ireturn, 1) := by decide +kernel
def zm_Cutter_findWeakest : zg_M := (⟨"SurrogateTree$Cutter", "findWeakest", "([LSurrogateTree$Node;)Z"⟩, prog_3_method_4_code, 4, (some .boolean))
theorem zd_Cutter_findWeakest_0 : decode prog_3_method_4_code 0 = .ok (.iconst 0, 1) := by decide +kernel
theorem zd_Cutter_findWeakest_1 : decode prog_3_method_4_code 1 = .ok (.istore_n 2, 1) := by decide +kernel
theorem zd_Cutter_findWeakest_2 : decode prog_3_method_4_code 2 = .ok (.bipush 31, 2) := by decide +kernel
theorem zd_Cutter_findWeakest_4 : decode prog_3_method_4_code 4 = .ok (.istore_n 3, 1) := by decide +kernel
theorem zd_Cutter_findWeakest_5 : decode prog_3_method_4_code 5 = .ok (.iload_n 3, 1) := by decide +kernel
theorem zd_Cutter_findWeakest_6 : decode prog_3_method_4_code 6 = .ok (.iconst 1, 1) := by decide +kernel
theorem zd_Cutter_findWeakest_7 : decode prog_3_method_4_code 7 = .ok (.if_icmp .lt 161, 3) := by decide +kernel
theorem zd_Cutter_findWeakest_10 : decode prog_3_method_4_code 10 = .ok (.aload_n 0, 1) := by decide +kernel
theorem zd_Cutter_findWeakest_11 : decode prog_3_method_4_code 11 = .ok (.getfield 32, 3) := by decide +kernel
theorem zd_Cutter_findWeakest_14 : decode prog_3_method_4_code 14 = .ok (.iload_n 3, 1) := by decide +kernel
theorem zd_Cutter_findWeakest_15 : decode prog_3_method_4_code 15 = .ok (.iconst 1, 1) := by decide +kernel
theorem zd_Cutter_findWeakest_16 : decode prog_3_method_4_code 16 = .ok (.iastore, 1) := by decide +kernel
theorem zd_Cutter_findWeakest_17 : decode prog_3_method_4_code 17 = .ok (.aload_n 0, 1) := by decide +kernel
theorem zd_Cutter_findWeakest_18 : decode prog_3_method_4_code 18 = .ok (.getfield 35, 3) := by decide +kernel
theorem zd_Cutter_findWeakest_21 : decode prog_3_method_4_code 21 = .ok (.iload_n 3, 1) := by decide +kernel
theorem zd_Cutter_findWeakest_22 : decode prog_3_method_4_code 22 = .ok (.aload_n 1, 1) := by decide +kernel
theorem zd_Cutter_findWeakest_23 : decode prog_3_method_4_code 23 = .ok (.iload_n 3, 1) := by decide +kernel
theorem zd_Cutter_findWeakest_24 : decode prog_3_method_4_code 24 = .ok (.aaload, 1) := by decide +kernel
theorem zd_Cutter_findWeakest_25 : decode prog_3_method_4_code 25 = .ok (.getfield 42, 3) := by decide +kernel
theorem zd_Cutter_findWeakest_28 : decode prog_3_method_4_code 28 = .ok (.iastore, 1) := by decide +kernel
theorem zd_Cutter_findWeakest_29 : decode prog_3_method_4_code 29 = .ok (.aload_n 0, 1) := by decide +kernel
theorem zd_Cutter_findWeakest_30 : decode prog_3_method_4_code 30 = .ok (.getfield 21, 3) := by decide +kernel
theorem zd_Cutter_findWeakest_33 : decode prog_3_method_4_code 33 = .ok (.iload_n 3, 1) := by decide +kernel
theorem zd_Cutter_findWeakest_34 : decode prog_3_method_4_code 34 = .ok (.invokevirtual 38, 3) := by decide +kernel
theorem zd_Cutter_findWeakest_37 : decode prog_3_method_4_code 37 = .ok (.iconst 2, 1) := by decide +kernel
theorem zd_Cutter_findWeakest_38 : decode prog_3_method_4_code 38 = .ok (.if_icmp .ne 124, 3) := by decide +kernel
theorem zd_Cutter_findWeakest_41 : decode prog_3_method_4_code 41 = .ok (.iconst 2, 1) := by decide +kernel
theorem zd_Cutter_findWeakest_42 : decode prog_3_method_4_code 42 = .ok (.iload_n 3, 1) := by decide +kernel
theorem zd_Cutter_findWeakest_43 : decode prog_3_method_4_code 43 = .ok (.imul, 1) := by decide +kernel
theorem zd_Cutter_findWeakest_44 : decode prog_3_method_4_code 44 = .ok (.iconst 1, 1) := by decide +kernel
theorem zd_Cutter_findWeakest_45 : decode prog_3_method_4_code 45 = .ok (.iadd, 1) := by decide +kernel
theorem zd_Cutter_findWeakest_46 : decode prog_3_method_4_code 46 = .ok (.bipush 32, 2) := by decide +kernel
theorem zd_Cutter_findWeakest_48 : decode prog_3_method_4_code 48 = .ok (.if_icmp .ge 114, 3) := by decide +kernel
theorem zd_Cutter_findWeakest_51 : decode prog_3_method_4_code 51 = .ok (.aload_n 0, 1) := by decide +kernel
theorem zd_Cutter_findWeakest_52 : decode prog_3_method_4_code 52 = .ok (.getfield 32, 3) := by decide +kernel
theorem zd_Cutter_findWeakest_55 : decode prog_3_method_4_code 55 = .ok (.iload_n 3, 1) := by decide +kernel
theorem zd_Cutter_findWeakest_56 : decode prog_3_method_4_code 56 = .ok (.aload_n 0, 1) := by decide +kernel
theorem zd_Cutter_findWeakest_57 : decode prog_3_method_4_code 57 = .ok (.getfield 32, 3) := by decide +kernel
theorem zd_Cutter_findWeakest_60 : decode prog_3_method_4_code 60 = .ok (.iconst 2, 1) := by decide +kernel
theorem zd_Cutter_findWeakest_61 : decode prog_3_method_4_code 61 = .ok (.iload_n 3, 1) := by decide +kernel
theorem zd_Cutter_findWeakest_62 : decode prog_3_method_4_code 62 = .ok (.imul, 1) := by decide +kernel
theorem zd_Cutter_findWeakest_63 : decode prog_3_method_4_code 63 = .ok (.iaload, 1) := by decide +kernel
theorem zd_Cutter_findWeakest_64 : decode prog_3_method_4_code 64 = .ok (.aload_n 0, 1) := by decide +kernel
theorem zd_Cutter_findWeakest_65 : decode prog_3_method_4_code 65 = .ok (.getfield 32, 3) := by decide +kernel
theorem zd_Cutter_findWeakest_68 : decode prog_3_method_4_code 68 = .ok (.iconst 2, 1) := by decide +kernel
theorem zd_Cutter_findWeakest_69 : decode prog_3_method_4_code 69 = .ok (.iload_n 3, 1) := by decide +kernel
theorem zd_Cutter_findWeakest_70 : decode prog_3_method_4_code 70 = .ok (.imul, 1) := by decide +kernel
theorem zd_Cutter_findWeakest_71 : decode prog_3_method_4_code 71 = .ok (.iconst 1, 1) := by decide +kernel
theorem zd_Cutter_findWeakest_72 : decode prog_3_method_4_code 72 = .ok (.iadd, 1) := by decide +kernel
theorem zd_Cutter_findWeakest_73 : decode prog_3_method_4_code 73 = .ok (.iaload, 1) := by decide +kernel
theorem zd_Cutter_findWeakest_74 : decode prog_3_method_4_code 74 = .ok (.iadd, 1) := by decide +kernel
theorem zd_Cutter_findWeakest_75 : decode prog_3_method_4_code 75 = .ok (.iastore, 1) := by decide +kernel
theorem zd_Cutter_findWeakest_76 : decode prog_3_method_4_code 76 = .ok (.aload_n 0, 1) := by decide +kernel
theorem zd_Cutter_findWeakest_77 : decode prog_3_method_4_code 77 = .ok (.getfield 35, 3) := by decide +kernel
theorem zd_Cutter_findWeakest_80 : decode prog_3_method_4_code 80 = .ok (.iload_n 3, 1) := by decide +kernel
theorem zd_Cutter_findWeakest_81 : decode prog_3_method_4_code 81 = .ok (.aload_n 0, 1) := by decide +kernel
theorem zd_Cutter_findWeakest_82 : decode prog_3_method_4_code 82 = .ok (.getfield 35, 3) := by decide +kernel
theorem zd_Cutter_findWeakest_85 : decode prog_3_method_4_code 85 = .ok (.iconst 2, 1) := by decide +kernel
theorem zd_Cutter_findWeakest_86 : decode prog_3_method_4_code 86 = .ok (.iload_n 3, 1) := by decide +kernel
theorem zd_Cutter_findWeakest_87 : decode prog_3_method_4_code 87 = .ok (.imul, 1) := by decide +kernel
theorem zd_Cutter_findWeakest_88 : decode prog_3_method_4_code 88 = .ok (.iaload, 1) := by decide +kernel
theorem zd_Cutter_findWeakest_89 : decode prog_3_method_4_code 89 = .ok (.aload_n 0, 1) := by decide +kernel
theorem zd_Cutter_findWeakest_90 : decode prog_3_method_4_code 90 = .ok (.getfield 35, 3) := by decide +kernel
theorem zd_Cutter_findWeakest_93 : decode prog_3_method_4_code 93 = .ok (.iconst 2, 1) := by decide +kernel
theorem zd_Cutter_findWeakest_94 : decode prog_3_method_4_code 94 = .ok (.iload_n 3, 1) := by decide +kernel
theorem zd_Cutter_findWeakest_95 : decode prog_3_method_4_code 95 = .ok (.imul, 1) := by decide +kernel
theorem zd_Cutter_findWeakest_96 : decode prog_3_method_4_code 96 = .ok (.iconst 1, 1) := by decide +kernel
theorem zd_Cutter_findWeakest_97 : decode prog_3_method_4_code 97 = .ok (.iadd, 1) := by decide +kernel
theorem zd_Cutter_findWeakest_98 : decode prog_3_method_4_code 98 = .ok (.iaload, 1) := by decide +kernel
theorem zd_Cutter_findWeakest_99 : decode prog_3_method_4_code 99 = .ok (.iadd, 1) := by decide +kernel
theorem zd_Cutter_findWeakest_100 : decode prog_3_method_4_code 100 = .ok (.iastore, 1) := by decide +kernel
theorem zd_Cutter_findWeakest_101 : decode prog_3_method_4_code 101 = .ok (.aload_n 0, 1) := by decide +kernel
theorem zd_Cutter_findWeakest_102 : decode prog_3_method_4_code 102 = .ok (.getfield 25, 3) := by decide +kernel
theorem zd_Cutter_findWeakest_105 : decode prog_3_method_4_code 105 = .ok (.aload_n 1, 1) := by decide +kernel
theorem zd_Cutter_findWeakest_106 : decode prog_3_method_4_code 106 = .ok (.iload_n 3, 1) := by decide +kernel
theorem zd_Cutter_findWeakest_107 : decode prog_3_method_4_code 107 = .ok (.aaload, 1) := by decide +kernel
theorem zd_Cutter_findWeakest_108 : decode prog_3_method_4_code 108 = .ok (.getfield 42, 3) := by decide +kernel
theorem zd_Cutter_findWeakest_111 : decode prog_3_method_4_code 111 = .ok (.aload_n 0, 1) := by decide +kernel
theorem zd_Cutter_findWeakest_112 : decode prog_3_method_4_code 112 = .ok (.getfield 35, 3) := by decide +kernel
theorem zd_Cutter_findWeakest_115 : decode prog_3_method_4_code 115 = .ok (.iload_n 3, 1) := by decide +kernel
theorem zd_Cutter_findWeakest_116 : decode prog_3_method_4_code 116 = .ok (.iaload, 1) := by decide +kernel
theorem zd_Cutter_findWeakest_117 : decode prog_3_method_4_code 117 = .ok (.isub, 1) := by decide +kernel
theorem zd_Cutter_findWeakest_118 : decode prog_3_method_4_code 118 = .ok (.i2l, 1) := by decide +kernel
theorem zd_Cutter_findWeakest_119 : decode prog_3_method_4_code 119 = .ok (.aload_n 0, 1) := by decide +kernel
theorem zd_Cutter_findWeakest_120 : decode prog_3_method_4_code 120 = .ok (.getfield 32, 3) := by decide +kernel
theorem zd_Cutter_findWeakest_123 : decode prog_3_method_4_code 123 = .ok (.iload_n 3, 1) := by decide +kernel
theorem zd_Cutter_findWeakest_124 : decode prog_3_method_4_code 124 = .ok (.iaload, 1) := by decide +kernel
theorem zd_Cutter_findWeakest_125 : decode prog_3_method_4_code 125 = .ok (.iconst 1, 1) := by decide +kernel
theorem zd_Cutter_findWeakest_126 : decode prog_3_method_4_code 126 = .ok (.isub, 1) := by decide +kernel
theorem zd_Cutter_findWeakest_127 : decode prog_3_method_4_code 127 = .ok (.i2l, 1) := by decide +kernel
theorem zd_Cutter_findWeakest_128 : decode prog_3_method_4_code 128 = .ok (.invokevirtual 69, 3) := by decide +kernel
theorem zd_Cutter_findWeakest_131 : decode prog_3_method_4_code 131 = .ok (.iload_n 2, 1) := by decide +kernel
theorem zd_Cutter_findWeakest_132 : decode prog_3_method_4_code 132 = .ok (.ifCond .eq 17, 3) := by decide +kernel
theorem zd_Cutter_findWeakest_135 : decode prog_3_method_4_code 135 = .ok (.aload_n 0, 1) := by decide +kernel
theorem zd_Cutter_findWeakest_136 : decode prog_3_method_4_code 136 = .ok (.getfield 12, 3) := by decide +kernel
theorem zd_Cutter_findWeakest_139 : decode prog_3_method_4_code 139 = .ok (.aload_n 0, 1) := by decide +kernel
theorem zd_Cutter_findWeakest_140 : decode prog_3_method_4_code 140 = .ok (.getfield 25, 3) := by decide +kernel
theorem zd_Cutter_findWeakest_143 : decode prog_3_method_4_code 143 = .ok (.invokevirtual 73, 3) := by decide +kernel
theorem zd_Cutter_findWeakest_146 : decode prog_3_method_4_code 146 = .ok (.ifCond .eq 16, 3) := by decide +kernel
theorem zd_Cutter_findWeakest_149 : decode prog_3_method_4_code 149 = .ok (.aload_n 0, 1) := by decide +kernel
theorem zd_Cutter_findWeakest_150 : decode prog_3_method_4_code 150 = .ok (.getfield 12, 3) := by decide +kernel
theorem zd_Cutter_findWeakest_153 : decode prog_3_method_4_code 153 = .ok (.aload_n 0, 1) := by decide +kernel
theorem zd_Cutter_findWeakest_154 : decode prog_3_method_4_code 154 = .ok (.getfield 25, 3) := by decide +kernel
theorem zd_Cutter_findWeakest_157 : decode prog_3_method_4_code 157 = .ok (.invokevirtual 77, 3) := by decide +kernel
theorem zd_Cutter_findWeakest_160 : decode prog_3_method_4_code 160 = .ok (.iconst 1, 1) := by decide +kernel
theorem zd_Cutter_findWeakest_161 : decode prog_3_method_4_code 161 = .ok (.istore_n 2, 1) := by decide +kernel
theorem zd_Cutter_findWeakest_162 : decode prog_3_method_4_code 162 = .ok (.iinc 3 (-1), 3) := by decide +kernel
theorem zd_Cutter_findWeakest_165 : decode prog_3_method_4_code 165 = .ok (.goto (-160), 3) := by decide +kernel
theorem zd_Cutter_findWeakest_168 : decode prog_3_method_4_code 168 = .ok (.iload_n 2, 1) := by decide +kernel
theorem zd_Cutter_findWeakest_169 : decode prog_3_method_4_code 169 = .ok (.ireturn, 1) := by decide +kernel
def zm_Tree_tally : zg_M := (⟨"SurrogateTree", "tally", "()I"⟩, prog_1_method_18_code, 3, (some .int))
theorem zd_Tree_tally_0 : decode prog_1_method_18_code 0 = .ok (.aload_n 0, 1) := by decide +kernel
theorem zd_Tree_tally_1 : decode prog_1_method_18_code 1 = .ok (.getfield 33, 3) := by decide +kernel
theorem zd_Tree_tally_4 : decode prog_1_method_18_code 4 = .ok (.invokevirtual 116, 3) := by decide +kernel
theorem zd_Tree_tally_7 : decode prog_1_method_18_code 7 = .ok (.ifCond .eq 5, 3) := by decide +kernel
theorem zd_Tree_tally_10 : decode prog_1_method_18_code 10 = .ok (.iconst (-1), 1) := by decide +kernel
theorem zd_Tree_tally_11 : decode prog_1_method_18_code 11 = .ok (.ireturn, 1) := by decide +kernel
theorem zd_Tree_tally_12 : decode prog_1_method_18_code 12 = .ok (.iconst 0, 1) := by decide +kernel
theorem zd_Tree_tally_13 : decode prog_1_method_18_code 13 = .ok (.istore_n 1, 1) := by decide +kernel
theorem zd_Tree_tally_14 : decode prog_1_method_18_code 14 = .ok (.iconst 0, 1) := by decide +kernel
theorem zd_Tree_tally_15 : decode prog_1_method_18_code 15 = .ok (.istore_n 2, 1) := by decide +kernel
theorem zd_Tree_tally_16 : decode prog_1_method_18_code 16 = .ok (.iload_n 2, 1) := by decide +kernel
theorem zd_Tree_tally_17 : decode prog_1_method_18_code 17 = .ok (.aload_n 0, 1) := by decide +kernel
theorem zd_Tree_tally_18 : decode prog_1_method_18_code 18 = .ok (.getfield 10, 3) := by decide +kernel
theorem zd_Tree_tally_21 : decode prog_1_method_18_code 21 = .ok (.getfield 82, 3) := by decide +kernel
theorem zd_Tree_tally_24 : decode prog_1_method_18_code 24 = .ok (.if_icmp .ge 53, 3) := by decide +kernel
theorem zd_Tree_tally_27 : decode prog_1_method_18_code 27 = .ok (.aload_n 0, 1) := by decide +kernel
theorem zd_Tree_tally_28 : decode prog_1_method_18_code 28 = .ok (.getfield 10, 3) := by decide +kernel
theorem zd_Tree_tally_31 : decode prog_1_method_18_code 31 = .ok (.getfield 113, 3) := by decide +kernel
theorem zd_Tree_tally_34 : decode prog_1_method_18_code 34 = .ok (.iload_n 2, 1) := by decide +kernel
theorem zd_Tree_tally_35 : decode prog_1_method_18_code 35 = .ok (.iaload, 1) := by decide +kernel
theorem zd_Tree_tally_36 : decode prog_1_method_18_code 36 = .ok (.ifCond .ne 35, 3) := by decide +kernel
theorem zd_Tree_tally_39 : decode prog_1_method_18_code 39 = .ok (.aload_n 0, 1) := by decide +kernel
theorem zd_Tree_tally_40 : decode prog_1_method_18_code 40 = .ok (.getfield 19, 3) := by decide +kernel
theorem zd_Tree_tally_43 : decode prog_1_method_18_code 43 = .ok (.iload_n 2, 1) := by decide +kernel
theorem zd_Tree_tally_44 : decode prog_1_method_18_code 44 = .ok (.aload_n 0, 1) := by decide +kernel
theorem zd_Tree_tally_45 : decode prog_1_method_18_code 45 = .ok (.getfield 25, 3) := by decide +kernel
theorem zd_Tree_tally_48 : decode prog_1_method_18_code 48 = .ok (.aload_n 0, 1) := by decide +kernel
theorem zd_Tree_tally_49 : decode prog_1_method_18_code 49 = .ok (.aload_n 0, 1) := by decide +kernel
theorem zd_Tree_tally_50 : decode prog_1_method_18_code 50 = .ok (.getfield 10, 3) := by decide +kernel
theorem zd_Tree_tally_53 : decode prog_1_method_18_code 53 = .ok (.getfield 194, 3) := by decide +kernel
theorem zd_Tree_tally_56 : decode prog_1_method_18_code 56 = .ok (.iload_n 2, 1) := by decide +kernel
theorem zd_Tree_tally_57 : decode prog_1_method_18_code 57 = .ok (.aaload, 1) := by decide +kernel
theorem zd_Tree_tally_58 : decode prog_1_method_18_code 58 = .ok (.invokevirtual 171, 3) := by decide +kernel
theorem zd_Tree_tally_61 : decode prog_1_method_18_code 61 = .ok (.aaload, 1) := by decide +kernel
theorem zd_Tree_tally_62 : decode prog_1_method_18_code 62 = .ok (.getfield 165, 3) := by decide +kernel
theorem zd_Tree_tally_65 : decode prog_1_method_18_code 65 = .ok (.invokevirtual 198, 3) := by decide +kernel
theorem zd_Tree_tally_68 : decode prog_1_method_18_code 68 = .ok (.iinc 1 1, 3) := by decide +kernel
theorem zd_Tree_tally_71 : decode prog_1_method_18_code 71 = .ok (.iinc 2 1, 3) := by decide +kernel
theorem zd_Tree_tally_74 : decode prog_1_method_18_code 74 = .ok (.goto (-58), 3) := by decide +kernel
theorem zd_Tree_tally_77 : decode prog_1_method_18_code 77 = .ok (.iload_n 1, 1) := by decide +kernel
theorem zd_Tree_tally_78 : decode prog_1_method_18_code 78 = .ok (.ireturn, 1) := by decide +kernel
def zm_Tree_votes : zg_M := (⟨"SurrogateTree", "votes", "(II)I"⟩, prog_1_method_19_code, 3, (some .int))
theorem zd_Tree_votes_0 : decode prog_1_method_19_code 0 = .ok (.aload_n 0, 1) := by decide +kernel
theorem zd_Tree_votes_1 : decode prog_1_method_19_code 1 = .ok (.getfield 10, 3) := by decide +kernel
theorem zd_Tree_votes_4 : decode prog_1_method_19_code 4 = .ok (.iload_n 1, 1) := by decide +kernel
theorem zd_Tree_votes_5 : decode prog_1_method_19_code 5 = .ok (.invokevirtual 110, 3) := by decide +kernel
theorem zd_Tree_votes_8 : decode prog_1_method_19_code 8 = .ok (.ifCond .eq 24, 3) := by decide +kernel
theorem zd_Tree_votes_11 : decode prog_1_method_19_code 11 = .ok (.iload_n 2, 1) := by decide +kernel
theorem zd_Tree_votes_12 : decode prog_1_method_19_code 12 = .ok (.invokestatic 78, 3) := by decide +kernel
theorem zd_Tree_votes_15 : decode prog_1_method_19_code 15 = .ok (.ifCond .eq 17, 3) := by decide +kernel
theorem zd_Tree_votes_18 : decode prog_1_method_19_code 18 = .ok (.aload_n 0, 1) := by decide +kernel
theorem zd_Tree_votes_19 : decode prog_1_method_19_code 19 = .ok (.getfield 19, 3) := by decide +kernel
theorem zd_Tree_votes_22 : decode prog_1_method_19_code 22 = .ok (.getfield 202, 3) := by decide +kernel
theorem zd_Tree_votes_25 : decode prog_1_method_19_code 25 = .ok (.iload_n 1, 1) := by decide +kernel
theorem zd_Tree_votes_26 : decode prog_1_method_19_code 26 = .ok (.aaload, 1) := by decide +kernel
theorem zd_Tree_votes_27 : decode prog_1_method_19_code 27 = .ok (.iload_n 2, 1) := by decide +kernel
theorem zd_Tree_votes_28 : decode prog_1_method_19_code 28 = .ok (.iaload, 1) := by decide +kernel
theorem zd_Tree_votes_29 : decode prog_1_method_19_code 29 = .ok (.goto 4, 3) := by decide +kernel
theorem zd_Tree_votes_32 : decode prog_1_method_19_code 32 = .ok (.iconst (-1), 1) := by decide +kernel
theorem zd_Tree_votes_33 : decode prog_1_method_19_code 33 = .ok (.ireturn, 1) := by decide +kernel
def zm_Tree_wrong : zg_M := (⟨"SurrogateTree", "wrong", "()I"⟩, prog_1_method_20_code, 4, (some .int))
theorem zd_Tree_wrong_0 : decode prog_1_method_20_code 0 = .ok (.iconst 0, 1) := by decide +kernel
theorem zd_Tree_wrong_1 : decode prog_1_method_20_code 1 = .ok (.istore_n 1, 1) := by decide +kernel
theorem zd_Tree_wrong_2 : decode prog_1_method_20_code 2 = .ok (.iconst 0, 1) := by decide +kernel
theorem zd_Tree_wrong_3 : decode prog_1_method_20_code 3 = .ok (.istore_n 2, 1) := by decide +kernel
theorem zd_Tree_wrong_4 : decode prog_1_method_20_code 4 = .ok (.iload_n 2, 1) := by decide +kernel
theorem zd_Tree_wrong_5 : decode prog_1_method_20_code 5 = .ok (.aload_n 0, 1) := by decide +kernel
theorem zd_Tree_wrong_6 : decode prog_1_method_20_code 6 = .ok (.getfield 10, 3) := by decide +kernel
theorem zd_Tree_wrong_9 : decode prog_1_method_20_code 9 = .ok (.getfield 82, 3) := by decide +kernel
theorem zd_Tree_wrong_12 : decode prog_1_method_20_code 12 = .ok (.if_icmp .ge 38, 3) := by decide +kernel
theorem zd_Tree_wrong_15 : decode prog_1_method_20_code 15 = .ok (.aload_n 0, 1) := by decide +kernel
theorem zd_Tree_wrong_16 : decode prog_1_method_20_code 16 = .ok (.getfield 19, 3) := by decide +kernel
theorem zd_Tree_wrong_19 : decode prog_1_method_20_code 19 = .ok (.iload_n 2, 1) := by decide +kernel
theorem zd_Tree_wrong_20 : decode prog_1_method_20_code 20 = .ok (.invokevirtual 205, 3) := by decide +kernel
theorem zd_Tree_wrong_23 : decode prog_1_method_20_code 23 = .ok (.istore_n 3, 1) := by decide +kernel
theorem zd_Tree_wrong_24 : decode prog_1_method_20_code 24 = .ok (.iload_n 3, 1) := by decide +kernel
theorem zd_Tree_wrong_25 : decode prog_1_method_20_code 25 = .ok (.ifCond .lt 19, 3) := by decide +kernel
theorem zd_Tree_wrong_28 : decode prog_1_method_20_code 28 = .ok (.iload_n 3, 1) := by decide +kernel
theorem zd_Tree_wrong_29 : decode prog_1_method_20_code 29 = .ok (.aload_n 0, 1) := by decide +kernel
theorem zd_Tree_wrong_30 : decode prog_1_method_20_code 30 = .ok (.getfield 10, 3) := by decide +kernel
theorem zd_Tree_wrong_33 : decode prog_1_method_20_code 33 = .ok (.getfield 208, 3) := by decide +kernel
theorem zd_Tree_wrong_36 : decode prog_1_method_20_code 36 = .ok (.iload_n 2, 1) := by decide +kernel
theorem zd_Tree_wrong_37 : decode prog_1_method_20_code 37 = .ok (.iaload, 1) := by decide +kernel
theorem zd_Tree_wrong_38 : decode prog_1_method_20_code 38 = .ok (.if_icmp .eq 6, 3) := by decide +kernel
theorem zd_Tree_wrong_41 : decode prog_1_method_20_code 41 = .ok (.iinc 1 1, 3) := by decide +kernel
theorem zd_Tree_wrong_44 : decode prog_1_method_20_code 44 = .ok (.iinc 2 1, 3) := by decide +kernel
theorem zd_Tree_wrong_47 : decode prog_1_method_20_code 47 = .ok (.goto (-43), 3) := by decide +kernel
theorem zd_Tree_wrong_50 : decode prog_1_method_20_code 50 = .ok (.iload_n 1, 1) := by decide +kernel
theorem zd_Tree_wrong_51 : decode prog_1_method_20_code 51 = .ok (.ireturn, 1) := by decide +kernel
