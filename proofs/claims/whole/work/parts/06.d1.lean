def zm_Object_init : zg_M := (⟨"java/lang/Object", "<init>", "()V"⟩, object_method_1_code, 1, none)
theorem zd_Object_init_0 : decode object_method_1_code 0 = .ok (.return_, 1) := by decide +kernel
def zm_Table_init : zg_M := (⟨"SurrogateTree$Table", "<init>", "()V"⟩, prog_11_method_1_code, 1, none)
theorem zd_Table_init_0 : decode prog_11_method_1_code 0 = .ok (.aload_n 0, 1) := by decide +kernel
theorem zd_Table_init_1 : decode prog_11_method_1_code 1 = .ok (.invokespecial 3, 3) := by decide +kernel
theorem zd_Table_init_4 : decode prog_11_method_1_code 4 = .ok (.aload_n 0, 1) := by decide +kernel
theorem zd_Table_init_5 : decode prog_11_method_1_code 5 = .ok (.bipush 16, 2) := by decide +kernel
theorem zd_Table_init_7 : decode prog_11_method_1_code 7 = .ok (.iconst 3, 1) := by decide +kernel
theorem zd_Table_init_8 : decode prog_11_method_1_code 8 = .ok (.multianewarray 9 2, 4) := by decide +kernel
theorem zd_Table_init_12 : decode prog_11_method_1_code 12 = .ok (.putfield 11, 3) := by decide +kernel
theorem zd_Table_init_15 : decode prog_11_method_1_code 15 = .ok (.aload_n 0, 1) := by decide +kernel
theorem zd_Table_init_16 : decode prog_11_method_1_code 16 = .ok (.bipush 16, 2) := by decide +kernel
theorem zd_Table_init_18 : decode prog_11_method_1_code 18 = .ok (.newarray .int, 2) := by decide +kernel
theorem zd_Table_init_20 : decode prog_11_method_1_code 20 = .ok (.putfield 16, 3) := by decide +kernel
theorem zd_Table_init_23 : decode prog_11_method_1_code 23 = .ok (.aload_n 0, 1) := by decide +kernel
theorem zd_Table_init_24 : decode prog_11_method_1_code 24 = .ok (.bipush 16, 2) := by decide +kernel
theorem zd_Table_init_26 : decode prog_11_method_1_code 26 = .ok (.newarray .int, 2) := by decide +kernel
theorem zd_Table_init_28 : decode prog_11_method_1_code 28 = .ok (.putfield 20, 3) := by decide +kernel
theorem zd_Table_init_31 : decode prog_11_method_1_code 31 = .ok (.aload_n 0, 1) := by decide +kernel
theorem zd_Table_init_32 : decode prog_11_method_1_code 32 = .ok (.iconst 0, 1) := by decide +kernel
theorem zd_Table_init_33 : decode prog_11_method_1_code 33 = .ok (.putfield 23, 3) := by decide +kernel
theorem zd_Table_init_36 : decode prog_11_method_1_code 36 = .ok (.return_, 1) := by decide +kernel
def zm_Ballot_init : zg_M := (⟨"SurrogateTree$Ballot", "<init>", "()V"⟩, prog_2_method_1_code, 1, none)
theorem zd_Ballot_init_0 : decode prog_2_method_1_code 0 = .ok (.aload_n 0, 1) := by decide +kernel
theorem zd_Ballot_init_1 : decode prog_2_method_1_code 1 = .ok (.invokespecial 3, 3) := by decide +kernel
theorem zd_Ballot_init_4 : decode prog_2_method_1_code 4 = .ok (.aload_n 0, 1) := by decide +kernel
theorem zd_Ballot_init_5 : decode prog_2_method_1_code 5 = .ok (.bipush 16, 2) := by decide +kernel
theorem zd_Ballot_init_7 : decode prog_2_method_1_code 7 = .ok (.iconst 4, 1) := by decide +kernel
theorem zd_Ballot_init_8 : decode prog_2_method_1_code 8 = .ok (.multianewarray 9 2, 4) := by decide +kernel
theorem zd_Ballot_init_12 : decode prog_2_method_1_code 12 = .ok (.putfield 11, 3) := by decide +kernel
theorem zd_Ballot_init_15 : decode prog_2_method_1_code 15 = .ok (.return_, 1) := by decide +kernel
def zm_Node_init : zg_M := (⟨"SurrogateTree$Node", "<init>", "()V"⟩, prog_6_method_1_code, 2, none)
theorem zd_Node_init_0 : decode prog_6_method_1_code 0 = .ok (.aload_n 0, 1) := by decide +kernel
theorem zd_Node_init_1 : decode prog_6_method_1_code 1 = .ok (.invokespecial 3, 3) := by decide +kernel
theorem zd_Node_init_4 : decode prog_6_method_1_code 4 = .ok (.aload_n 0, 1) := by decide +kernel
theorem zd_Node_init_5 : decode prog_6_method_1_code 5 = .ok (.new 9, 3) := by decide +kernel
theorem zd_Node_init_8 : decode prog_6_method_1_code 8 = .ok (.dup, 1) := by decide +kernel
theorem zd_Node_init_9 : decode prog_6_method_1_code 9 = .ok (.invokespecial 11, 3) := by decide +kernel
theorem zd_Node_init_12 : decode prog_6_method_1_code 12 = .ok (.putfield 12, 3) := by decide +kernel
theorem zd_Node_init_15 : decode prog_6_method_1_code 15 = .ok (.aload_n 0, 1) := by decide +kernel
theorem zd_Node_init_16 : decode prog_6_method_1_code 16 = .ok (.iconst 2, 1) := by decide +kernel
theorem zd_Node_init_17 : decode prog_6_method_1_code 17 = .ok (.anewarray 18, 3) := by decide +kernel
theorem zd_Node_init_20 : decode prog_6_method_1_code 20 = .ok (.putfield 20, 3) := by decide +kernel
theorem zd_Node_init_23 : decode prog_6_method_1_code 23 = .ok (.iconst 0, 1) := by decide +kernel
theorem zd_Node_init_24 : decode prog_6_method_1_code 24 = .ok (.istore_n 1, 1) := by decide +kernel
theorem zd_Node_init_25 : decode prog_6_method_1_code 25 = .ok (.iload_n 1, 1) := by decide +kernel
theorem zd_Node_init_26 : decode prog_6_method_1_code 26 = .ok (.iconst 2, 1) := by decide +kernel
theorem zd_Node_init_27 : decode prog_6_method_1_code 27 = .ok (.if_icmp .ge 22, 3) := by decide +kernel
theorem zd_Node_init_30 : decode prog_6_method_1_code 30 = .ok (.aload_n 0, 1) := by decide +kernel
theorem zd_Node_init_31 : decode prog_6_method_1_code 31 = .ok (.getfield 20, 3) := by decide +kernel
theorem zd_Node_init_34 : decode prog_6_method_1_code 34 = .ok (.iload_n 1, 1) := by decide +kernel
theorem zd_Node_init_35 : decode prog_6_method_1_code 35 = .ok (.new 18, 3) := by decide +kernel
theorem zd_Node_init_38 : decode prog_6_method_1_code 38 = .ok (.dup, 1) := by decide +kernel
theorem zd_Node_init_39 : decode prog_6_method_1_code 39 = .ok (.invokespecial 24, 3) := by decide +kernel
theorem zd_Node_init_42 : decode prog_6_method_1_code 42 = .ok (.aastore, 1) := by decide +kernel
theorem zd_Node_init_43 : decode prog_6_method_1_code 43 = .ok (.iinc 1 1, 3) := by decide +kernel
theorem zd_Node_init_46 : decode prog_6_method_1_code 46 = .ok (.goto (-21), 3) := by decide +kernel
theorem zd_Node_init_49 : decode prog_6_method_1_code 49 = .ok (.return_, 1) := by decide +kernel
def zm_Fraction_init : zg_M := (⟨"SurrogateTree$Fraction", "<init>", "()V"⟩, prog_4_method_1_code, 1, none)
theorem zd_Fraction_init_0 : decode prog_4_method_1_code 0 = .ok (.aload_n 0, 1) := by decide +kernel
theorem zd_Fraction_init_1 : decode prog_4_method_1_code 1 = .ok (.invokespecial 1, 3) := by decide +kernel
theorem zd_Fraction_init_4 : decode prog_4_method_1_code 4 = .ok (.aload_n 0, 1) := by decide +kernel
theorem zd_Fraction_init_5 : decode prog_4_method_1_code 5 = .ok (.lconst 0, 1) := by decide +kernel
theorem zd_Fraction_init_6 : decode prog_4_method_1_code 6 = .ok (.putfield 7, 3) := by decide +kernel
theorem zd_Fraction_init_9 : decode prog_4_method_1_code 9 = .ok (.aload_n 0, 1) := by decide +kernel
theorem zd_Fraction_init_10 : decode prog_4_method_1_code 10 = .ok (.lconst 1, 1) := by decide +kernel
theorem zd_Fraction_init_11 : decode prog_4_method_1_code 11 = .ok (.putfield 13, 3) := by decide +kernel
theorem zd_Fraction_init_14 : decode prog_4_method_1_code 14 = .ok (.return_, 1) := by decide +kernel
def zm_StandIn_init : zg_M := (⟨"SurrogateTree$StandIn", "<init>", "()V"⟩, prog_9_method_1_code, 1, none)
theorem zd_StandIn_init_0 : decode prog_9_method_1_code 0 = .ok (.aload_n 0, 1) := by decide +kernel
theorem zd_StandIn_init_1 : decode prog_9_method_1_code 1 = .ok (.invokespecial 1, 3) := by decide +kernel
theorem zd_StandIn_init_4 : decode prog_9_method_1_code 4 = .ok (.return_, 1) := by decide +kernel
def zm_Shape_init : zg_M := (⟨"SurrogateTree$Shape", "<init>", "()V"⟩, prog_7_method_1_code, 1, none)
theorem zd_Shape_init_0 : decode prog_7_method_1_code 0 = .ok (.aload_n 0, 1) := by decide +kernel
theorem zd_Shape_init_1 : decode prog_7_method_1_code 1 = .ok (.invokespecial 3, 3) := by decide +kernel
theorem zd_Shape_init_4 : decode prog_7_method_1_code 4 = .ok (.aload_n 0, 1) := by decide +kernel
theorem zd_Shape_init_5 : decode prog_7_method_1_code 5 = .ok (.bipush 32, 2) := by decide +kernel
theorem zd_Shape_init_7 : decode prog_7_method_1_code 7 = .ok (.newarray .int, 2) := by decide +kernel
theorem zd_Shape_init_9 : decode prog_7_method_1_code 9 = .ok (.putfield 9, 3) := by decide +kernel
theorem zd_Shape_init_12 : decode prog_7_method_1_code 12 = .ok (.aload_n 0, 1) := by decide +kernel
theorem zd_Shape_init_13 : decode prog_7_method_1_code 13 = .ok (.invokevirtual 15, 3) := by decide +kernel
theorem zd_Shape_init_16 : decode prog_7_method_1_code 16 = .ok (.return_, 1) := by decide +kernel
def zm_Shape_clear : zg_M := (⟨"SurrogateTree$Shape", "clear", "()V"⟩, prog_7_method_2_code, 2, none)
theorem zd_Shape_clear_0 : decode prog_7_method_2_code 0 = .ok (.iconst 0, 1) := by decide +kernel
theorem zd_Shape_clear_1 : decode prog_7_method_2_code 1 = .ok (.istore_n 1, 1) := by decide +kernel
theorem zd_Shape_clear_2 : decode prog_7_method_2_code 2 = .ok (.iload_n 1, 1) := by decide +kernel
theorem zd_Shape_clear_3 : decode prog_7_method_2_code 3 = .ok (.bipush 32, 2) := by decide +kernel
theorem zd_Shape_clear_5 : decode prog_7_method_2_code 5 = .ok (.if_icmp .ge 16, 3) := by decide +kernel
theorem zd_Shape_clear_8 : decode prog_7_method_2_code 8 = .ok (.aload_n 0, 1) := by decide +kernel
theorem zd_Shape_clear_9 : decode prog_7_method_2_code 9 = .ok (.getfield 9, 3) := by decide +kernel
theorem zd_Shape_clear_12 : decode prog_7_method_2_code 12 = .ok (.iload_n 1, 1) := by decide +kernel
theorem zd_Shape_clear_13 : decode prog_7_method_2_code 13 = .ok (.iconst (-1), 1) := by decide +kernel
theorem zd_Shape_clear_14 : decode prog_7_method_2_code 14 = .ok (.iastore, 1) := by decide +kernel
theorem zd_Shape_clear_15 : decode prog_7_method_2_code 15 = .ok (.iinc 1 1, 3) := by decide +kernel
theorem zd_Shape_clear_18 : decode prog_7_method_2_code 18 = .ok (.goto (-16), 3) := by decide +kernel
theorem zd_Shape_clear_21 : decode prog_7_method_2_code 21 = .ok (.return_, 1) := by decide +kernel
def zm_Limits_init : zg_M := (⟨"SurrogateTree$Limits", "<init>", "()V"⟩, prog_5_method_1_code, 1, none)
theorem zd_Limits_init_0 : decode prog_5_method_1_code 0 = .ok (.aload_n 0, 1) := by decide +kernel
theorem zd_Limits_init_1 : decode prog_5_method_1_code 1 = .ok (.invokespecial 3, 3) := by decide +kernel
theorem zd_Limits_init_4 : decode prog_5_method_1_code 4 = .ok (.aload_n 0, 1) := by decide +kernel
theorem zd_Limits_init_5 : decode prog_5_method_1_code 5 = .ok (.bipush 16, 2) := by decide +kernel
theorem zd_Limits_init_7 : decode prog_5_method_1_code 7 = .ok (.newarray .int, 2) := by decide +kernel
theorem zd_Limits_init_9 : decode prog_5_method_1_code 9 = .ok (.putfield 9, 3) := by decide +kernel
theorem zd_Limits_init_12 : decode prog_5_method_1_code 12 = .ok (.return_, 1) := by decide +kernel
def zm_Table_weightyRows : zg_M := (⟨"SurrogateTree$Table", "weightyRows", "()I"⟩, prog_11_method_7_code, 3, (some .int))
theorem zd_Table_weightyRows_0 : decode prog_11_method_7_code 0 = .ok (.iconst 0, 1) := by decide +kernel
theorem zd_Table_weightyRows_1 : decode prog_11_method_7_code 1 = .ok (.istore_n 1, 1) := by decide +kernel
theorem zd_Table_weightyRows_2 : decode prog_11_method_7_code 2 = .ok (.iconst 0, 1) := by decide +kernel
theorem zd_Table_weightyRows_3 : decode prog_11_method_7_code 3 = .ok (.istore_n 2, 1) := by decide +kernel
theorem zd_Table_weightyRows_4 : decode prog_11_method_7_code 4 = .ok (.iload_n 2, 1) := by decide +kernel
theorem zd_Table_weightyRows_5 : decode prog_11_method_7_code 5 = .ok (.aload_n 0, 1) := by decide +kernel
theorem zd_Table_weightyRows_6 : decode prog_11_method_7_code 6 = .ok (.getfield 23, 3) := by decide +kernel
theorem zd_Table_weightyRows_9 : decode prog_11_method_7_code 9 = .ok (.if_icmp .ge 24, 3) := by decide +kernel
theorem zd_Table_weightyRows_12 : decode prog_11_method_7_code 12 = .ok (.aload_n 0, 1) := by decide +kernel
theorem zd_Table_weightyRows_13 : decode prog_11_method_7_code 13 = .ok (.getfield 20, 3) := by decide +kernel
theorem zd_Table_weightyRows_16 : decode prog_11_method_7_code 16 = .ok (.iload_n 2, 1) := by decide +kernel
theorem zd_Table_weightyRows_17 : decode prog_11_method_7_code 17 = .ok (.iaload, 1) := by decide +kernel
theorem zd_Table_weightyRows_18 : decode prog_11_method_7_code 18 = .ok (.ifCond .le 9, 3) := by decide +kernel
theorem zd_Table_weightyRows_21 : decode prog_11_method_7_code 21 = .ok (.iload_n 1, 1) := by decide +kernel
theorem zd_Table_weightyRows_22 : decode prog_11_method_7_code 22 = .ok (.iconst 1, 1) := by decide +kernel
theorem zd_Table_weightyRows_23 : decode prog_11_method_7_code 23 = .ok (.iload_n 2, 1) := by decide +kernel
theorem zd_Table_weightyRows_24 : decode prog_11_method_7_code 24 = .ok (.ishl, 1) := by decide +kernel
theorem zd_Table_weightyRows_25 : decode prog_11_method_7_code 25 = .ok (.ior, 1) := by decide +kernel
theorem zd_Table_weightyRows_26 : decode prog_11_method_7_code 26 = .ok (.istore_n 1, 1) := by decide +kernel
theorem zd_Table_weightyRows_27 : decode prog_11_method_7_code 27 = .ok (.iinc 2 1, 3) := by decide +kernel
theorem zd_Table_weightyRows_30 : decode prog_11_method_7_code 30 = .ok (.goto (-26), 3) := by decide +kernel
theorem zd_Table_weightyRows_33 : decode prog_11_method_7_code 33 = .ok (.iload_n 1, 1) := by decide +kernel
theorem zd_Table_weightyRows_34 : decode prog_11_method_7_code 34 = .ok (.ireturn, 1) := by decide +kernel
def zm_Node_takeRows : zg_M := (⟨"SurrogateTree$Node", "takeRows", "(LSurrogateTree$Table;I)V"⟩, prog_6_method_2_code, 6, none)
theorem zd_Node_takeRows_0 : decode prog_6_method_2_code 0 = .ok (.aload_n 0, 1) := by decide +kernel
theorem zd_Node_takeRows_1 : decode prog_6_method_2_code 1 = .ok (.iload_n 2, 1) := by decide +kernel
theorem zd_Node_takeRows_2 : decode prog_6_method_2_code 2 = .ok (.putfield 25, 3) := by decide +kernel
theorem zd_Node_takeRows_5 : decode prog_6_method_2_code 5 = .ok (.aload_n 0, 1) := by decide +kernel
theorem zd_Node_takeRows_6 : decode prog_6_method_2_code 6 = .ok (.iconst 0, 1) := by decide +kernel
theorem zd_Node_takeRows_7 : decode prog_6_method_2_code 7 = .ok (.putfield 29, 3) := by decide +kernel
theorem zd_Node_takeRows_10 : decode prog_6_method_2_code 10 = .ok (.iconst 0, 1) := by decide +kernel
theorem zd_Node_takeRows_11 : decode prog_6_method_2_code 11 = .ok (.istore_n 3, 1) := by decide +kernel
theorem zd_Node_takeRows_12 : decode prog_6_method_2_code 12 = .ok (.iconst 0, 1) := by decide +kernel
theorem zd_Node_takeRows_13 : decode prog_6_method_2_code 13 = .ok (.istore 4, 2) := by decide +kernel
theorem zd_Node_takeRows_15 : decode prog_6_method_2_code 15 = .ok (.iload 4, 2) := by decide +kernel
theorem zd_Node_takeRows_17 : decode prog_6_method_2_code 17 = .ok (.iconst 4, 1) := by decide +kernel
theorem zd_Node_takeRows_18 : decode prog_6_method_2_code 18 = .ok (.if_icmp .ge 40, 3) := by decide +kernel
theorem zd_Node_takeRows_21 : decode prog_6_method_2_code 21 = .ok (.aload_n 1, 1) := by decide +kernel
theorem zd_Node_takeRows_22 : decode prog_6_method_2_code 22 = .ok (.aload_n 1, 1) := by decide +kernel
theorem zd_Node_takeRows_23 : decode prog_6_method_2_code 23 = .ok (.aload_n 0, 1) := by decide +kernel
theorem zd_Node_takeRows_24 : decode prog_6_method_2_code 24 = .ok (.getfield 25, 3) := by decide +kernel
theorem zd_Node_takeRows_27 : decode prog_6_method_2_code 27 = .ok (.iload 4, 2) := by decide +kernel
theorem zd_Node_takeRows_29 : decode prog_6_method_2_code 29 = .ok (.invokevirtual 32, 3) := by decide +kernel
theorem zd_Node_takeRows_32 : decode prog_6_method_2_code 32 = .ok (.invokevirtual 38, 3) := by decide +kernel
theorem zd_Node_takeRows_35 : decode prog_6_method_2_code 35 = .ok (.istore 5, 2) := by decide +kernel
theorem zd_Node_takeRows_37 : decode prog_6_method_2_code 37 = .ok (.iload 5, 2) := by decide +kernel
theorem zd_Node_takeRows_39 : decode prog_6_method_2_code 39 = .ok (.iload_n 3, 1) := by decide +kernel
theorem zd_Node_takeRows_40 : decode prog_6_method_2_code 40 = .ok (.if_icmp .le 12, 3) := by decide +kernel
theorem zd_Node_takeRows_43 : decode prog_6_method_2_code 43 = .ok (.iload 5, 2) := by decide +kernel
theorem zd_Node_takeRows_45 : decode prog_6_method_2_code 45 = .ok (.istore_n 3, 1) := by decide +kernel
theorem zd_Node_takeRows_46 : decode prog_6_method_2_code 46 = .ok (.aload_n 0, 1) := by decide +kernel
theorem zd_Node_takeRows_47 : decode prog_6_method_2_code 47 = .ok (.iload 4, 2) := by decide +kernel
theorem zd_Node_takeRows_49 : decode prog_6_method_2_code 49 = .ok (.putfield 29, 3) := by decide +kernel
theorem zd_Node_takeRows_52 : decode prog_6_method_2_code 52 = .ok (.iinc 4 1, 3) := by decide +kernel
theorem zd_Node_takeRows_55 : decode prog_6_method_2_code 55 = .ok (.goto (-40), 3) := by decide +kernel
theorem zd_Node_takeRows_58 : decode prog_6_method_2_code 58 = .ok (.aload_n 0, 1) := by decide +kernel
theorem zd_Node_takeRows_59 : decode prog_6_method_2_code 59 = .ok (.aload_n 1, 1) := by decide +kernel
theorem zd_Node_takeRows_60 : decode prog_6_method_2_code 60 = .ok (.aload_n 0, 1) := by decide +kernel
theorem zd_Node_takeRows_61 : decode prog_6_method_2_code 61 = .ok (.getfield 25, 3) := by decide +kernel
theorem zd_Node_takeRows_64 : decode prog_6_method_2_code 64 = .ok (.invokevirtual 38, 3) := by decide +kernel
theorem zd_Node_takeRows_67 : decode prog_6_method_2_code 67 = .ok (.iload_n 3, 1) := by decide +kernel
theorem zd_Node_takeRows_68 : decode prog_6_method_2_code 68 = .ok (.isub, 1) := by decide +kernel
theorem zd_Node_takeRows_69 : decode prog_6_method_2_code 69 = .ok (.putfield 42, 3) := by decide +kernel
theorem zd_Node_takeRows_72 : decode prog_6_method_2_code 72 = .ok (.return_, 1) := by decide +kernel
def zm_Table_rowsInClass : zg_M := (⟨"SurrogateTree$Table", "rowsInClass", "(II)I"⟩, prog_11_method_9_code, 5, (some .int))
theorem zd_Table_rowsInClass_0 : decode prog_11_method_9_code 0 = .ok (.iconst 0, 1) := by decide +kernel
theorem zd_Table_rowsInClass_1 : decode prog_11_method_9_code 1 = .ok (.istore_n 3, 1) := by decide +kernel
theorem zd_Table_rowsInClass_2 : decode prog_11_method_9_code 2 = .ok (.iconst 0, 1) := by decide +kernel
theorem zd_Table_rowsInClass_3 : decode prog_11_method_9_code 3 = .ok (.istore 4, 2) := by decide +kernel
theorem zd_Table_rowsInClass_5 : decode prog_11_method_9_code 5 = .ok (.iload 4, 2) := by decide +kernel
theorem zd_Table_rowsInClass_7 : decode prog_11_method_9_code 7 = .ok (.aload_n 0, 1) := by decide +kernel
theorem zd_Table_rowsInClass_8 : decode prog_11_method_9_code 8 = .ok (.getfield 23, 3) := by decide +kernel
theorem zd_Table_rowsInClass_11 : decode prog_11_method_9_code 11 = .ok (.if_icmp .ge 36, 3) := by decide +kernel
theorem zd_Table_rowsInClass_14 : decode prog_11_method_9_code 14 = .ok (.iload_n 1, 1) := by decide +kernel
theorem zd_Table_rowsInClass_15 : decode prog_11_method_9_code 15 = .ok (.iload 4, 2) := by decide +kernel
theorem zd_Table_rowsInClass_17 : decode prog_11_method_9_code 17 = .ok (.invokestatic 39, 3) := by decide +kernel
theorem zd_Table_rowsInClass_20 : decode prog_11_method_9_code 20 = .ok (.ifCond .eq 21, 3) := by decide +kernel
theorem zd_Table_rowsInClass_23 : decode prog_11_method_9_code 23 = .ok (.aload_n 0, 1) := by decide +kernel
theorem zd_Table_rowsInClass_24 : decode prog_11_method_9_code 24 = .ok (.getfield 16, 3) := by decide +kernel
theorem zd_Table_rowsInClass_27 : decode prog_11_method_9_code 27 = .ok (.iload 4, 2) := by decide +kernel
theorem zd_Table_rowsInClass_29 : decode prog_11_method_9_code 29 = .ok (.iaload, 1) := by decide +kernel
theorem zd_Table_rowsInClass_30 : decode prog_11_method_9_code 30 = .ok (.iload_n 2, 1) := by decide +kernel
theorem zd_Table_rowsInClass_31 : decode prog_11_method_9_code 31 = .ok (.if_icmp .ne 10, 3) := by decide +kernel
theorem zd_Table_rowsInClass_34 : decode prog_11_method_9_code 34 = .ok (.iload_n 3, 1) := by decide +kernel
theorem zd_Table_rowsInClass_35 : decode prog_11_method_9_code 35 = .ok (.iconst 1, 1) := by decide +kernel
theorem zd_Table_rowsInClass_36 : decode prog_11_method_9_code 36 = .ok (.iload 4, 2) := by decide +kernel
theorem zd_Table_rowsInClass_38 : decode prog_11_method_9_code 38 = .ok (.ishl, 1) := by decide +kernel
theorem zd_Table_rowsInClass_39 : decode prog_11_method_9_code 39 = .ok (.ior, 1) := by decide +kernel
theorem zd_Table_rowsInClass_40 : decode prog_11_method_9_code 40 = .ok (.istore_n 3, 1) := by decide +kernel
theorem zd_Table_rowsInClass_41 : decode prog_11_method_9_code 41 = .ok (.iinc 4 1, 3) := by decide +kernel
theorem zd_Table_rowsInClass_44 : decode prog_11_method_9_code 44 = .ok (.goto (-39), 3) := by decide +kernel
theorem zd_Table_rowsInClass_47 : decode prog_11_method_9_code 47 = .ok (.iload_n 3, 1) := by decide +kernel
theorem zd_Table_rowsInClass_48 : decode prog_11_method_9_code 48 = .ok (.ireturn, 1) := by decide +kernel
def zm_Table_contains : zg_M := (⟨"SurrogateTree$Table", "contains", "(II)Z"⟩, prog_11_method_12_code, 2, (some .boolean))
theorem zd_Table_contains_0 : decode prog_11_method_12_code 0 = .ok (.iload_n 0, 1) := by decide +kernel
theorem zd_Table_contains_1 : decode prog_11_method_12_code 1 = .ok (.iload_n 1, 1) := by decide +kernel
theorem zd_Table_contains_2 : decode prog_11_method_12_code 2 = .ok (.ishr, 1) := by decide +kernel
theorem zd_Table_contains_3 : decode prog_11_method_12_code 3 = .ok (.iconst 1, 1) := by decide +kernel
theorem zd_Table_contains_4 : decode prog_11_method_12_code 4 = .ok (.iand, 1) := by decide +kernel
theorem zd_Table_contains_5 : decode prog_11_method_12_code 5 = .ok (.ifCond .eq 7, 3) := by decide +kernel
theorem zd_Table_contains_8 : decode prog_11_method_12_code 8 = .ok (.iconst 1, 1) := by decide +kernel
theorem zd_Table_contains_9 : decode prog_11_method_12_code 9 = .ok (.goto 4, 3) := by decide +kernel
theorem zd_Table_contains_12 : decode prog_11_method_12_code 12 = .ok (.iconst 0, 1) := by decide +kernel
theorem zd_Table_contains_13 : decode prog_11_method_12_code 13 = .ok (.ireturn, 1) := by decide +kernel
def zm_Table_weightOf : zg_M := (⟨"SurrogateTree$Table", "weightOf", "(I)I"⟩, prog_11_method_8_code, 4, (some .int))
theorem zd_Table_weightOf_0 : decode prog_11_method_8_code 0 = .ok (.iconst 0, 1) := by decide +kernel
theorem zd_Table_weightOf_1 : decode prog_11_method_8_code 1 = .ok (.istore_n 2, 1) := by decide +kernel
theorem zd_Table_weightOf_2 : decode prog_11_method_8_code 2 = .ok (.iconst 0, 1) := by decide +kernel
theorem zd_Table_weightOf_3 : decode prog_11_method_8_code 3 = .ok (.istore_n 3, 1) := by decide +kernel
theorem zd_Table_weightOf_4 : decode prog_11_method_8_code 4 = .ok (.iload_n 3, 1) := by decide +kernel
theorem zd_Table_weightOf_5 : decode prog_11_method_8_code 5 = .ok (.aload_n 0, 1) := by decide +kernel
theorem zd_Table_weightOf_6 : decode prog_11_method_8_code 6 = .ok (.getfield 23, 3) := by decide +kernel
theorem zd_Table_weightOf_9 : decode prog_11_method_8_code 9 = .ok (.if_icmp .ge 26, 3) := by decide +kernel
theorem zd_Table_weightOf_12 : decode prog_11_method_8_code 12 = .ok (.iload_n 1, 1) := by decide +kernel
theorem zd_Table_weightOf_13 : decode prog_11_method_8_code 13 = .ok (.iload_n 3, 1) := by decide +kernel
theorem zd_Table_weightOf_14 : decode prog_11_method_8_code 14 = .ok (.invokestatic 39, 3) := by decide +kernel
theorem zd_Table_weightOf_17 : decode prog_11_method_8_code 17 = .ok (.ifCond .eq 12, 3) := by decide +kernel
theorem zd_Table_weightOf_20 : decode prog_11_method_8_code 20 = .ok (.iload_n 2, 1) := by decide +kernel
theorem zd_Table_weightOf_21 : decode prog_11_method_8_code 21 = .ok (.aload_n 0, 1) := by decide +kernel
theorem zd_Table_weightOf_22 : decode prog_11_method_8_code 22 = .ok (.getfield 20, 3) := by decide +kernel
theorem zd_Table_weightOf_25 : decode prog_11_method_8_code 25 = .ok (.iload_n 3, 1) := by decide +kernel
theorem zd_Table_weightOf_26 : decode prog_11_method_8_code 26 = .ok (.iaload, 1) := by decide +kernel
theorem zd_Table_weightOf_27 : decode prog_11_method_8_code 27 = .ok (.iadd, 1) := by decide +kernel
theorem zd_Table_weightOf_28 : decode prog_11_method_8_code 28 = .ok (.istore_n 2, 1) := by decide +kernel
theorem zd_Table_weightOf_29 : decode prog_11_method_8_code 29 = .ok (.iinc 3 1, 3) := by decide +kernel
theorem zd_Table_weightOf_32 : decode prog_11_method_8_code 32 = .ok (.goto (-28), 3) := by decide +kernel
theorem zd_Table_weightOf_35 : decode prog_11_method_8_code 35 = .ok (.iload_n 2, 1) := by decide +kernel
theorem zd_Table_weightOf_36 : decode prog_11_method_8_code 36 = .ok (.ireturn, 1) := by decide +kernel
def zm_Table_append : zg_M := (⟨"SurrogateTree$Table", "append", "(IIII)I"⟩, prog_11_method_3_code, 6, (some .int))
theorem zd_Table_append_0 : decode prog_11_method_3_code 0 = .ok (.aload_n 0, 1) := by decide +kernel
theorem zd_Table_append_1 : decode prog_11_method_3_code 1 = .ok (.getfield 23, 3) := by decide +kernel
theorem zd_Table_append_4 : decode prog_11_method_3_code 4 = .ok (.istore 5, 2) := by decide +kernel
theorem zd_Table_append_6 : decode prog_11_method_3_code 6 = .ok (.aload_n 0, 1) := by decide +kernel
theorem zd_Table_append_7 : decode prog_11_method_3_code 7 = .ok (.getfield 11, 3) := by decide +kernel
theorem zd_Table_append_10 : decode prog_11_method_3_code 10 = .ok (.iload 5, 2) := by decide +kernel
theorem zd_Table_append_12 : decode prog_11_method_3_code 12 = .ok (.aaload, 1) := by decide +kernel
theorem zd_Table_append_13 : decode prog_11_method_3_code 13 = .ok (.iconst 0, 1) := by decide +kernel
theorem zd_Table_append_14 : decode prog_11_method_3_code 14 = .ok (.iload_n 1, 1) := by decide +kernel
theorem zd_Table_append_15 : decode prog_11_method_3_code 15 = .ok (.iastore, 1) := by decide +kernel
theorem zd_Table_append_16 : decode prog_11_method_3_code 16 = .ok (.aload_n 0, 1) := by decide +kernel
theorem zd_Table_append_17 : decode prog_11_method_3_code 17 = .ok (.getfield 11, 3) := by decide +kernel
theorem zd_Table_append_20 : decode prog_11_method_3_code 20 = .ok (.iload 5, 2) := by decide +kernel
theorem zd_Table_append_22 : decode prog_11_method_3_code 22 = .ok (.aaload, 1) := by decide +kernel
theorem zd_Table_append_23 : decode prog_11_method_3_code 23 = .ok (.iconst 1, 1) := by decide +kernel
theorem zd_Table_append_24 : decode prog_11_method_3_code 24 = .ok (.iload_n 2, 1) := by decide +kernel
theorem zd_Table_append_25 : decode prog_11_method_3_code 25 = .ok (.iastore, 1) := by decide +kernel
theorem zd_Table_append_26 : decode prog_11_method_3_code 26 = .ok (.aload_n 0, 1) := by decide +kernel
theorem zd_Table_append_27 : decode prog_11_method_3_code 27 = .ok (.getfield 11, 3) := by decide +kernel
theorem zd_Table_append_30 : decode prog_11_method_3_code 30 = .ok (.iload 5, 2) := by decide +kernel
theorem zd_Table_append_32 : decode prog_11_method_3_code 32 = .ok (.aaload, 1) := by decide +kernel
theorem zd_Table_append_33 : decode prog_11_method_3_code 33 = .ok (.iconst 2, 1) := by decide +kernel
theorem zd_Table_append_34 : decode prog_11_method_3_code 34 = .ok (.iload_n 3, 1) := by decide +kernel
theorem zd_Table_append_35 : decode prog_11_method_3_code 35 = .ok (.iastore, 1) := by decide +kernel
theorem zd_Table_append_36 : decode prog_11_method_3_code 36 = .ok (.aload_n 0, 1) := by decide +kernel
theorem zd_Table_append_37 : decode prog_11_method_3_code 37 = .ok (.getfield 16, 3) := by decide +kernel
theorem zd_Table_append_40 : decode prog_11_method_3_code 40 = .ok (.iload 5, 2) := by decide +kernel
theorem zd_Table_append_42 : decode prog_11_method_3_code 42 = .ok (.iload 4, 2) := by decide +kernel
theorem zd_Table_append_44 : decode prog_11_method_3_code 44 = .ok (.iastore, 1) := by decide +kernel
theorem zd_Table_append_45 : decode prog_11_method_3_code 45 = .ok (.aload_n 0, 1) := by decide +kernel
theorem zd_Table_append_46 : decode prog_11_method_3_code 46 = .ok (.dup, 1) := by decide +kernel
theorem zd_Table_append_47 : decode prog_11_method_3_code 47 = .ok (.getfield 23, 3) := by decide +kernel
theorem zd_Table_append_50 : decode prog_11_method_3_code 50 = .ok (.iconst 1, 1) := by decide +kernel
theorem zd_Table_append_51 : decode prog_11_method_3_code 51 = .ok (.iadd, 1) := by decide +kernel
theorem zd_Table_append_52 : decode prog_11_method_3_code 52 = .ok (.putfield 23, 3) := by decide +kernel
theorem zd_Table_append_55 : decode prog_11_method_3_code 55 = .ok (.iload 5, 2) := by decide +kernel
theorem zd_Table_append_57 : decode prog_11_method_3_code 57 = .ok (.ireturn, 1) := by decide +kernel
def zm_Table_setWeights : zg_M := (⟨"SurrogateTree$Table", "setWeights", "(I)V"⟩, prog_11_method_4_code, 3, none)
theorem zd_Table_setWeights_0 : decode prog_11_method_4_code 0 = .ok (.iconst 0, 1) := by decide +kernel
theorem zd_Table_setWeights_1 : decode prog_11_method_4_code 1 = .ok (.istore_n 2, 1) := by decide +kernel
theorem zd_Table_setWeights_2 : decode prog_11_method_4_code 2 = .ok (.iload_n 2, 1) := by decide +kernel
theorem zd_Table_setWeights_3 : decode prog_11_method_4_code 3 = .ok (.aload_n 0, 1) := by decide +kernel
theorem zd_Table_setWeights_4 : decode prog_11_method_4_code 4 = .ok (.getfield 23, 3) := by decide +kernel
theorem zd_Table_setWeights_7 : decode prog_11_method_4_code 7 = .ok (.if_icmp .ge 16, 3) := by decide +kernel
theorem zd_Table_setWeights_10 : decode prog_11_method_4_code 10 = .ok (.aload_n 0, 1) := by decide +kernel
theorem zd_Table_setWeights_11 : decode prog_11_method_4_code 11 = .ok (.getfield 20, 3) := by decide +kernel
theorem zd_Table_setWeights_14 : decode prog_11_method_4_code 14 = .ok (.iload_n 2, 1) := by decide +kernel
theorem zd_Table_setWeights_15 : decode prog_11_method_4_code 15 = .ok (.iload_n 1, 1) := by decide +kernel
theorem zd_Table_setWeights_16 : decode prog_11_method_4_code 16 = .ok (.iastore, 1) := by decide +kernel
theorem zd_Table_setWeights_17 : decode prog_11_method_4_code 17 = .ok (.iinc 2 1, 3) := by decide +kernel
theorem zd_Table_setWeights_20 : decode prog_11_method_4_code 20 = .ok (.goto (-18), 3) := by decide +kernel
theorem zd_Table_setWeights_23 : decode prog_11_method_4_code 23 = .ok (.return_, 1) := by decide +kernel
def zm_Ballot_clear : zg_M := (⟨"SurrogateTree$Ballot", "clear", "()V"⟩, prog_2_method_2_code, 3, none)
theorem zd_Ballot_clear_0 : decode prog_2_method_2_code 0 = .ok (.iconst 0, 1) := by decide +kernel
theorem zd_Ballot_clear_1 : decode prog_2_method_2_code 1 = .ok (.istore_n 1, 1) := by decide +kernel
theorem zd_Ballot_clear_2 : decode prog_2_method_2_code 2 = .ok (.iload_n 1, 1) := by decide +kernel
theorem zd_Ballot_clear_3 : decode prog_2_method_2_code 3 = .ok (.bipush 16, 2) := by decide +kernel
theorem zd_Ballot_clear_5 : decode prog_2_method_2_code 5 = .ok (.if_icmp .ge 31, 3) := by decide +kernel
theorem zd_Ballot_clear_8 : decode prog_2_method_2_code 8 = .ok (.iconst 0, 1) := by decide +kernel
theorem zd_Ballot_clear_9 : decode prog_2_method_2_code 9 = .ok (.istore_n 2, 1) := by decide +kernel
theorem zd_Ballot_clear_10 : decode prog_2_method_2_code 10 = .ok (.iload_n 2, 1) := by decide +kernel
theorem zd_Ballot_clear_11 : decode prog_2_method_2_code 11 = .ok (.iconst 4, 1) := by decide +kernel
theorem zd_Ballot_clear_12 : decode prog_2_method_2_code 12 = .ok (.if_icmp .ge 18, 3) := by decide +kernel
theorem zd_Ballot_clear_15 : decode prog_2_method_2_code 15 = .ok (.aload_n 0, 1) := by decide +kernel
theorem zd_Ballot_clear_16 : decode prog_2_method_2_code 16 = .ok (.getfield 11, 3) := by decide +kernel
theorem zd_Ballot_clear_19 : decode prog_2_method_2_code 19 = .ok (.iload_n 1, 1) := by decide +kernel
theorem zd_Ballot_clear_20 : decode prog_2_method_2_code 20 = .ok (.aaload, 1) := by decide +kernel
theorem zd_Ballot_clear_21 : decode prog_2_method_2_code 21 = .ok (.iload_n 2, 1) := by decide +kernel
theorem zd_Ballot_clear_22 : decode prog_2_method_2_code 22 = .ok (.iconst 0, 1) := by decide +kernel
theorem zd_Ballot_clear_23 : decode prog_2_method_2_code 23 = .ok (.iastore, 1) := by decide +kernel
theorem zd_Ballot_clear_24 : decode prog_2_method_2_code 24 = .ok (.iinc 2 1, 3) := by decide +kernel
theorem zd_Ballot_clear_27 : decode prog_2_method_2_code 27 = .ok (.goto (-17), 3) := by decide +kernel
theorem zd_Ballot_clear_30 : decode prog_2_method_2_code 30 = .ok (.iinc 1 1, 3) := by decide +kernel
theorem zd_Ballot_clear_33 : decode prog_2_method_2_code 33 = .ok (.goto (-31), 3) := by decide +kernel
theorem zd_Ballot_clear_36 : decode prog_2_method_2_code 36 = .ok (.return_, 1) := by decide +kernel
def zm_Table_draw : zg_M := (⟨"SurrogateTree$Table", "draw", "(J)V"⟩, prog_11_method_5_code, 8, none)
theorem zd_Table_draw_0 : decode prog_11_method_5_code 0 = .ok (.aload_n 0, 1) := by decide +kernel
theorem zd_Table_draw_1 : decode prog_11_method_5_code 1 = .ok (.iconst 0, 1) := by decide +kernel
theorem zd_Table_draw_2 : decode prog_11_method_5_code 2 = .ok (.invokevirtual 27, 3) := by decide +kernel
theorem zd_Table_draw_5 : decode prog_11_method_5_code 5 = .ok (.lload_n 1, 1) := by decide +kernel
theorem zd_Table_draw_6 : decode prog_11_method_5_code 6 = .ok (.lstore_n 3, 1) := by decide +kernel
theorem zd_Table_draw_7 : decode prog_11_method_5_code 7 = .ok (.iconst 0, 1) := by decide +kernel
theorem zd_Table_draw_8 : decode prog_11_method_5_code 8 = .ok (.istore 5, 2) := by decide +kernel
theorem zd_Table_draw_10 : decode prog_11_method_5_code 10 = .ok (.iload 5, 2) := by decide +kernel
theorem zd_Table_draw_12 : decode prog_11_method_5_code 12 = .ok (.aload_n 0, 1) := by decide +kernel
theorem zd_Table_draw_13 : decode prog_11_method_5_code 13 = .ok (.getfield 23, 3) := by decide +kernel
theorem zd_Table_draw_16 : decode prog_11_method_5_code 16 = .ok (.if_icmp .ge 71, 3) := by decide +kernel
theorem zd_Table_draw_19 : decode prog_11_method_5_code 19 = .ok (.bipush 32, 2) := by decide +kernel
theorem zd_Table_draw_21 : decode prog_11_method_5_code 21 = .ok (.istore 6, 2) := by decide +kernel
theorem zd_Table_draw_23 : decode prog_11_method_5_code 23 = .ok (.iconst 0, 1) := by decide +kernel
theorem zd_Table_draw_24 : decode prog_11_method_5_code 24 = .ok (.istore 7, 2) := by decide +kernel
theorem zd_Table_draw_26 : decode prog_11_method_5_code 26 = .ok (.iload 7, 2) := by decide +kernel
theorem zd_Table_draw_28 : decode prog_11_method_5_code 28 = .ok (.bipush 8, 2) := by decide +kernel
theorem zd_Table_draw_30 : decode prog_11_method_5_code 30 = .ok (.if_icmp .ge 35, 3) := by decide +kernel
theorem zd_Table_draw_33 : decode prog_11_method_5_code 33 = .ok (.aload_n 0, 1) := by decide +kernel
theorem zd_Table_draw_34 : decode prog_11_method_5_code 34 = .ok (.iload 6, 2) := by decide +kernel
theorem zd_Table_draw_36 : decode prog_11_method_5_code 36 = .ok (.invokevirtual 31, 3) := by decide +kernel
theorem zd_Table_draw_39 : decode prog_11_method_5_code 39 = .ok (.ifCond .ne 26, 3) := by decide +kernel
theorem zd_Table_draw_42 : decode prog_11_method_5_code 42 = .ok (.lload_n 3, 1) := by decide +kernel
theorem zd_Table_draw_43 : decode prog_11_method_5_code 43 = .ok (.ldc2_w 35, 3) := by decide +kernel
theorem zd_Table_draw_46 : decode prog_11_method_5_code 46 = .ok (.lmul, 1) := by decide +kernel
theorem zd_Table_draw_47 : decode prog_11_method_5_code 47 = .ok (.ldc2_w 37, 3) := by decide +kernel
theorem zd_Table_draw_50 : decode prog_11_method_5_code 50 = .ok (.ladd, 1) := by decide +kernel
theorem zd_Table_draw_51 : decode prog_11_method_5_code 51 = .ok (.lstore_n 3, 1) := by decide +kernel
theorem zd_Table_draw_52 : decode prog_11_method_5_code 52 = .ok (.lload_n 3, 1) := by decide +kernel
theorem zd_Table_draw_53 : decode prog_11_method_5_code 53 = .ok (.bipush 59, 2) := by decide +kernel
theorem zd_Table_draw_55 : decode prog_11_method_5_code 55 = .ok (.lushr, 1) := by decide +kernel
theorem zd_Table_draw_56 : decode prog_11_method_5_code 56 = .ok (.l2i, 1) := by decide +kernel
theorem zd_Table_draw_57 : decode prog_11_method_5_code 57 = .ok (.istore 6, 2) := by decide +kernel
theorem zd_Table_draw_59 : decode prog_11_method_5_code 59 = .ok (.iinc 7 1, 3) := by decide +kernel
theorem zd_Table_draw_62 : decode prog_11_method_5_code 62 = .ok (.goto (-36), 3) := by decide +kernel
theorem zd_Table_draw_65 : decode prog_11_method_5_code 65 = .ok (.aload_n 0, 1) := by decide +kernel
theorem zd_Table_draw_66 : decode prog_11_method_5_code 66 = .ok (.getfield 20, 3) := by decide +kernel
theorem zd_Table_draw_69 : decode prog_11_method_5_code 69 = .ok (.iload 6, 2) := by decide +kernel
theorem zd_Table_draw_71 : decode prog_11_method_5_code 71 = .ok (.aload_n 0, 1) := by decide +kernel
theorem zd_Table_draw_72 : decode prog_11_method_5_code 72 = .ok (.getfield 23, 3) := by decide +kernel
theorem zd_Table_draw_75 : decode prog_11_method_5_code 75 = .ok (.irem, 1) := by decide +kernel
theorem zd_Table_draw_76 : decode prog_11_method_5_code 76 = .ok (.dup2, 1) := by decide +kernel
theorem zd_Table_draw_77 : decode prog_11_method_5_code 77 = .ok (.iaload, 1) := by decide +kernel
theorem zd_Table_draw_78 : decode prog_11_method_5_code 78 = .ok (.iconst 1, 1) := by decide +kernel
theorem zd_Table_draw_79 : decode prog_11_method_5_code 79 = .ok (.iadd, 1) := by decide +kernel
theorem zd_Table_draw_80 : decode prog_11_method_5_code 80 = .ok (.iastore, 1) := by decide +kernel
theorem zd_Table_draw_81 : decode prog_11_method_5_code 81 = .ok (.iinc 5 1, 3) := by decide +kernel
theorem zd_Table_draw_84 : decode prog_11_method_5_code 84 = .ok (.goto (-74), 3) := by decide +kernel
theorem zd_Table_draw_87 : decode prog_11_method_5_code 87 = .ok (.return_, 1) := by decide +kernel
def zm_Table_isFair : zg_M := (⟨"SurrogateTree$Table", "isFair", "(I)Z"⟩, prog_11_method_6_code, 2, (some .boolean))
theorem zd_Table_isFair_0 : decode prog_11_method_6_code 0 = .ok (.iload_n 1, 1) := by decide +kernel
theorem zd_Table_isFair_1 : decode prog_11_method_6_code 1 = .ok (.bipush 32, 2) := by decide +kernel
theorem zd_Table_isFair_3 : decode prog_11_method_6_code 3 = .ok (.bipush 32, 2) := by decide +kernel
theorem zd_Table_isFair_5 : decode prog_11_method_6_code 5 = .ok (.aload_n 0, 1) := by decide +kernel
theorem zd_Table_isFair_6 : decode prog_11_method_6_code 6 = .ok (.getfield 23, 3) := by decide +kernel
theorem zd_Table_isFair_9 : decode prog_11_method_6_code 9 = .ok (.irem, 1) := by decide +kernel
theorem zd_Table_isFair_10 : decode prog_11_method_6_code 10 = .ok (.isub, 1) := by decide +kernel
theorem zd_Table_isFair_11 : decode prog_11_method_6_code 11 = .ok (.if_icmp .ge 7, 3) := by decide +kernel
theorem zd_Table_isFair_14 : decode prog_11_method_6_code 14 = .ok (.iconst 1, 1) := by decide +kernel
theorem zd_Table_isFair_15 : decode prog_11_method_6_code 15 = .ok (.goto 4, 3) := by decide +kernel
theorem zd_Table_isFair_18 : decode prog_11_method_6_code 18 = .ok (.iconst 0, 1) := by decide +kernel
theorem zd_Table_isFair_19 : decode prog_11_method_6_code 19 = .ok (.ireturn, 1) := by decide +kernel
def zm_Table_has : zg_M := (⟨"SurrogateTree$Table", "has", "(I)Z"⟩, prog_11_method_2_code, 2, (some .boolean))
theorem zd_Table_has_0 : decode prog_11_method_2_code 0 = .ok (.iload_n 1, 1) := by decide +kernel
theorem zd_Table_has_1 : decode prog_11_method_2_code 1 = .ok (.ifCond .lt 15, 3) := by decide +kernel
theorem zd_Table_has_4 : decode prog_11_method_2_code 4 = .ok (.iload_n 1, 1) := by decide +kernel
theorem zd_Table_has_5 : decode prog_11_method_2_code 5 = .ok (.aload_n 0, 1) := by decide +kernel
theorem zd_Table_has_6 : decode prog_11_method_2_code 6 = .ok (.getfield 23, 3) := by decide +kernel
theorem zd_Table_has_9 : decode prog_11_method_2_code 9 = .ok (.if_icmp .ge 7, 3) := by decide +kernel
theorem zd_Table_has_12 : decode prog_11_method_2_code 12 = .ok (.iconst 1, 1) := by decide +kernel
theorem zd_Table_has_13 : decode prog_11_method_2_code 13 = .ok (.goto 4, 3) := by decide +kernel
theorem zd_Table_has_16 : decode prog_11_method_2_code 16 = .ok (.iconst 0, 1) := by decide +kernel
theorem zd_Table_has_17 : decode prog_11_method_2_code 17 = .ok (.ireturn, 1) := by decide +kernel
def zm_Shape_firstWaiting : zg_M := (⟨"SurrogateTree$Shape", "firstWaiting", "()I"⟩, prog_7_method_4_code, 2, (some .int))
theorem zd_Shape_firstWaiting_0 : decode prog_7_method_4_code 0 = .ok (.iconst 1, 1) := by decide +kernel
theorem zd_Shape_firstWaiting_1 : decode prog_7_method_4_code 1 = .ok (.istore_n 1, 1) := by decide +kernel
theorem zd_Shape_firstWaiting_2 : decode prog_7_method_4_code 2 = .ok (.iload_n 1, 1) := by decide +kernel
theorem zd_Shape_firstWaiting_3 : decode prog_7_method_4_code 3 = .ok (.bipush 32, 2) := by decide +kernel
theorem zd_Shape_firstWaiting_5 : decode prog_7_method_4_code 5 = .ok (.if_icmp .ge 20, 3) := by decide +kernel
theorem zd_Shape_firstWaiting_8 : decode prog_7_method_4_code 8 = .ok (.aload_n 0, 1) := by decide +kernel
theorem zd_Shape_firstWaiting_9 : decode prog_7_method_4_code 9 = .ok (.getfield 9, 3) := by decide +kernel
theorem zd_Shape_firstWaiting_12 : decode prog_7_method_4_code 12 = .ok (.iload_n 1, 1) := by decide +kernel
theorem zd_Shape_firstWaiting_13 : decode prog_7_method_4_code 13 = .ok (.iaload, 1) := by decide +kernel
theorem zd_Shape_firstWaiting_14 : decode prog_7_method_4_code 14 = .ok (.ifCond .ne 5, 3) := by decide +kernel
theorem zd_Shape_firstWaiting_17 : decode prog_7_method_4_code 17 = .ok (.iload_n 1, 1) := by decide +kernel
theorem zd_Shape_firstWaiting_18 : decode prog_7_method_4_code 18 = .ok (.ireturn, 1) := by decide +kernel
theorem zd_Shape_firstWaiting_19 : decode prog_7_method_4_code 19 = .ok (.iinc 1 1, 3) := by decide +kernel
theorem zd_Shape_firstWaiting_22 : decode prog_7_method_4_code 22 = .ok (.goto (-20), 3) := by decide +kernel
theorem zd_Shape_firstWaiting_25 : decode prog_7_method_4_code 25 = .ok (.iconst 0, 1) := by decide +kernel
theorem zd_Shape_firstWaiting_26 : decode prog_7_method_4_code 26 = .ok (.ireturn, 1) := by decide +kernel
def zm_Fraction_set : zg_M := (⟨"SurrogateTree$Fraction", "set", "(JJ)V"⟩, prog_4_method_2_code, 7, none)
theorem zd_Fraction_set_0 : decode prog_4_method_2_code 0 = .ok (.lload_n 1, 1) := by decide +kernel
theorem zd_Fraction_set_1 : decode prog_4_method_2_code 1 = .ok (.lload_n 3, 1) := by decide +kernel
theorem zd_Fraction_set_2 : decode prog_4_method_2_code 2 = .ok (.invokestatic 16, 3) := by decide +kernel
theorem zd_Fraction_set_5 : decode prog_4_method_2_code 5 = .ok (.lstore 5, 2) := by decide +kernel
theorem zd_Fraction_set_7 : decode prog_4_method_2_code 7 = .ok (.lload 5, 2) := by decide +kernel
theorem zd_Fraction_set_9 : decode prog_4_method_2_code 9 = .ok (.lconst 0, 1) := by decide +kernel
theorem zd_Fraction_set_10 : decode prog_4_method_2_code 10 = .ok (.lcmp, 1) := by decide +kernel
theorem zd_Fraction_set_11 : decode prog_4_method_2_code 11 = .ok (.ifCond .le 19, 3) := by decide +kernel
theorem zd_Fraction_set_14 : decode prog_4_method_2_code 14 = .ok (.aload_n 0, 1) := by decide +kernel
theorem zd_Fraction_set_15 : decode prog_4_method_2_code 15 = .ok (.lload_n 1, 1) := by decide +kernel
theorem zd_Fraction_set_16 : decode prog_4_method_2_code 16 = .ok (.lload 5, 2) := by decide +kernel
theorem zd_Fraction_set_18 : decode prog_4_method_2_code 18 = .ok (.ldiv, 1) := by decide +kernel
theorem zd_Fraction_set_19 : decode prog_4_method_2_code 19 = .ok (.putfield 7, 3) := by decide +kernel
theorem zd_Fraction_set_22 : decode prog_4_method_2_code 22 = .ok (.aload_n 0, 1) := by decide +kernel
theorem zd_Fraction_set_23 : decode prog_4_method_2_code 23 = .ok (.lload_n 3, 1) := by decide +kernel
theorem zd_Fraction_set_24 : decode prog_4_method_2_code 24 = .ok (.lload 5, 2) := by decide +kernel
theorem zd_Fraction_set_26 : decode prog_4_method_2_code 26 = .ok (.ldiv, 1) := by decide +kernel
theorem zd_Fraction_set_27 : decode prog_4_method_2_code 27 = .ok (.putfield 13, 3) := by decide +kernel
theorem zd_Fraction_set_30 : decode prog_4_method_2_code 30 = .ok (.return_, 1) := by decide +kernel
def zm_Fraction_commonDivisor : zg_M := (⟨"SurrogateTree$Fraction", "commonDivisor", "(JJ)J"⟩, prog_4_method_5_code, 11, (some .long))
theorem zd_Fraction_commonDivisor_0 : decode prog_4_method_5_code 0 = .ok (.lload_n 0, 1) := by decide +kernel
theorem zd_Fraction_commonDivisor_1 : decode prog_4_method_5_code 1 = .ok (.lstore 4, 2) := by decide +kernel
theorem zd_Fraction_commonDivisor_3 : decode prog_4_method_5_code 3 = .ok (.lload_n 2, 1) := by decide +kernel
theorem zd_Fraction_commonDivisor_4 : decode prog_4_method_5_code 4 = .ok (.lstore 6, 2) := by decide +kernel
theorem zd_Fraction_commonDivisor_6 : decode prog_4_method_5_code 6 = .ok (.iconst 0, 1) := by decide +kernel
theorem zd_Fraction_commonDivisor_7 : decode prog_4_method_5_code 7 = .ok (.istore 8, 2) := by decide +kernel
theorem zd_Fraction_commonDivisor_9 : decode prog_4_method_5_code 9 = .ok (.iload 8, 2) := by decide +kernel
theorem zd_Fraction_commonDivisor_11 : decode prog_4_method_5_code 11 = .ok (.bipush 100, 2) := by decide +kernel
theorem zd_Fraction_commonDivisor_13 : decode prog_4_method_5_code 13 = .ok (.if_icmp .ge 31, 3) := by decide +kernel
theorem zd_Fraction_commonDivisor_16 : decode prog_4_method_5_code 16 = .ok (.lload 6, 2) := by decide +kernel
theorem zd_Fraction_commonDivisor_18 : decode prog_4_method_5_code 18 = .ok (.lconst 0, 1) := by decide +kernel
theorem zd_Fraction_commonDivisor_19 : decode prog_4_method_5_code 19 = .ok (.lcmp, 1) := by decide +kernel
theorem zd_Fraction_commonDivisor_20 : decode prog_4_method_5_code 20 = .ok (.ifCond .eq 24, 3) := by decide +kernel
theorem zd_Fraction_commonDivisor_23 : decode prog_4_method_5_code 23 = .ok (.lload 4, 2) := by decide +kernel
theorem zd_Fraction_commonDivisor_25 : decode prog_4_method_5_code 25 = .ok (.lload 6, 2) := by decide +kernel
theorem zd_Fraction_commonDivisor_27 : decode prog_4_method_5_code 27 = .ok (.lrem, 1) := by decide +kernel
theorem zd_Fraction_commonDivisor_28 : decode prog_4_method_5_code 28 = .ok (.lstore 9, 2) := by decide +kernel
theorem zd_Fraction_commonDivisor_30 : decode prog_4_method_5_code 30 = .ok (.lload 6, 2) := by decide +kernel
theorem zd_Fraction_commonDivisor_32 : decode prog_4_method_5_code 32 = .ok (.lstore 4, 2) := by decide +kernel
theorem zd_Fraction_commonDivisor_34 : decode prog_4_method_5_code 34 = .ok (.lload 9, 2) := by decide +kernel
theorem zd_Fraction_commonDivisor_36 : decode prog_4_method_5_code 36 = .ok (.lstore 6, 2) := by decide +kernel
theorem zd_Fraction_commonDivisor_38 : decode prog_4_method_5_code 38 = .ok (.iinc 8 1, 3) := by decide +kernel
theorem zd_Fraction_commonDivisor_41 : decode prog_4_method_5_code 41 = .ok (.goto (-32), 3) := by decide +kernel
theorem zd_Fraction_commonDivisor_44 : decode prog_4_method_5_code 44 = .ok (.lload 4, 2) := by decide +kernel
theorem zd_Fraction_commonDivisor_46 : decode prog_4_method_5_code 46 = .ok (.lreturn, 1) := by decide +kernel
def zm_Table_rowsPresent : zg_M := (⟨"SurrogateTree$Table", "rowsPresent", "(II)I"⟩, prog_11_method_10_code, 5, (some .int))
theorem zd_Table_rowsPresent_0 : decode prog_11_method_10_code 0 = .ok (.iconst 0, 1) := by decide +kernel
theorem zd_Table_rowsPresent_1 : decode prog_11_method_10_code 1 = .ok (.istore_n 3, 1) := by decide +kernel
theorem zd_Table_rowsPresent_2 : decode prog_11_method_10_code 2 = .ok (.iconst 0, 1) := by decide +kernel
theorem zd_Table_rowsPresent_3 : decode prog_11_method_10_code 3 = .ok (.istore 4, 2) := by decide +kernel
theorem zd_Table_rowsPresent_5 : decode prog_11_method_10_code 5 = .ok (.iload 4, 2) := by decide +kernel
theorem zd_Table_rowsPresent_7 : decode prog_11_method_10_code 7 = .ok (.aload_n 0, 1) := by decide +kernel
theorem zd_Table_rowsPresent_8 : decode prog_11_method_10_code 8 = .ok (.getfield 23, 3) := by decide +kernel
theorem zd_Table_rowsPresent_11 : decode prog_11_method_10_code 11 = .ok (.if_icmp .ge 39, 3) := by decide +kernel
theorem zd_Table_rowsPresent_14 : decode prog_11_method_10_code 14 = .ok (.iload_n 1, 1) := by decide +kernel
theorem zd_Table_rowsPresent_15 : decode prog_11_method_10_code 15 = .ok (.iload 4, 2) := by decide +kernel
theorem zd_Table_rowsPresent_17 : decode prog_11_method_10_code 17 = .ok (.invokestatic 39, 3) := by decide +kernel
theorem zd_Table_rowsPresent_20 : decode prog_11_method_10_code 20 = .ok (.ifCond .eq 24, 3) := by decide +kernel
theorem zd_Table_rowsPresent_23 : decode prog_11_method_10_code 23 = .ok (.aload_n 0, 1) := by decide +kernel
theorem zd_Table_rowsPresent_24 : decode prog_11_method_10_code 24 = .ok (.getfield 11, 3) := by decide +kernel
theorem zd_Table_rowsPresent_27 : decode prog_11_method_10_code 27 = .ok (.iload 4, 2) := by decide +kernel
theorem zd_Table_rowsPresent_29 : decode prog_11_method_10_code 29 = .ok (.aaload, 1) := by decide +kernel
theorem zd_Table_rowsPresent_30 : decode prog_11_method_10_code 30 = .ok (.iload_n 2, 1) := by decide +kernel
theorem zd_Table_rowsPresent_31 : decode prog_11_method_10_code 31 = .ok (.iaload, 1) := by decide +kernel
theorem zd_Table_rowsPresent_32 : decode prog_11_method_10_code 32 = .ok (.ldc 43, 2) := by decide +kernel
theorem zd_Table_rowsPresent_34 : decode prog_11_method_10_code 34 = .ok (.if_icmp .eq 10, 3) := by decide +kernel
theorem zd_Table_rowsPresent_37 : decode prog_11_method_10_code 37 = .ok (.iload_n 3, 1) := by decide +kernel
theorem zd_Table_rowsPresent_38 : decode prog_11_method_10_code 38 = .ok (.iconst 1, 1) := by decide +kernel
theorem zd_Table_rowsPresent_39 : decode prog_11_method_10_code 39 = .ok (.iload 4, 2) := by decide +kernel
theorem zd_Table_rowsPresent_41 : decode prog_11_method_10_code 41 = .ok (.ishl, 1) := by decide +kernel
theorem zd_Table_rowsPresent_42 : decode prog_11_method_10_code 42 = .ok (.ior, 1) := by decide +kernel
theorem zd_Table_rowsPresent_43 : decode prog_11_method_10_code 43 = .ok (.istore_n 3, 1) := by decide +kernel
theorem zd_Table_rowsPresent_44 : decode prog_11_method_10_code 44 = .ok (.iinc 4 1, 3) := by decide +kernel
theorem zd_Table_rowsPresent_47 : decode prog_11_method_10_code 47 = .ok (.goto (-42), 3) := by decide +kernel
theorem zd_Table_rowsPresent_50 : decode prog_11_method_10_code 50 = .ok (.iload_n 3, 1) := by decide +kernel
theorem zd_Table_rowsPresent_51 : decode prog_11_method_10_code 51 = .ok (.ireturn, 1) := by decide +kernel
def zm_Limits_collect : zg_M := (⟨"SurrogateTree$Limits", "collect", "(LSurrogateTree$Table;II)V"⟩, prog_5_method_2_code, 5, none)
theorem zd_Limits_collect_0 : decode prog_5_method_2_code 0 = .ok (.aload_n 0, 1) := by decide +kernel
theorem zd_Limits_collect_1 : decode prog_5_method_2_code 1 = .ok (.iconst 0, 1) := by decide +kernel
theorem zd_Limits_collect_2 : decode prog_5_method_2_code 2 = .ok (.putfield 15, 3) := by decide +kernel
theorem zd_Limits_collect_5 : decode prog_5_method_2_code 5 = .ok (.iconst 0, 1) := by decide +kernel
theorem zd_Limits_collect_6 : decode prog_5_method_2_code 6 = .ok (.istore 4, 2) := by decide +kernel
theorem zd_Limits_collect_8 : decode prog_5_method_2_code 8 = .ok (.iload 4, 2) := by decide +kernel
theorem zd_Limits_collect_10 : decode prog_5_method_2_code 10 = .ok (.aload_n 1, 1) := by decide +kernel
theorem zd_Limits_collect_11 : decode prog_5_method_2_code 11 = .ok (.getfield 19, 3) := by decide +kernel
theorem zd_Limits_collect_14 : decode prog_5_method_2_code 14 = .ok (.if_icmp .ge 31, 3) := by decide +kernel
theorem zd_Limits_collect_17 : decode prog_5_method_2_code 17 = .ok (.iload_n 2, 1) := by decide +kernel
theorem zd_Limits_collect_18 : decode prog_5_method_2_code 18 = .ok (.iload 4, 2) := by decide +kernel
theorem zd_Limits_collect_20 : decode prog_5_method_2_code 20 = .ok (.invokestatic 24, 3) := by decide +kernel
theorem zd_Limits_collect_23 : decode prog_5_method_2_code 23 = .ok (.ifCond .eq 16, 3) := by decide +kernel
theorem zd_Limits_collect_26 : decode prog_5_method_2_code 26 = .ok (.aload_n 0, 1) := by decide +kernel
theorem zd_Limits_collect_27 : decode prog_5_method_2_code 27 = .ok (.aload_n 1, 1) := by decide +kernel
theorem zd_Limits_collect_28 : decode prog_5_method_2_code 28 = .ok (.getfield 28, 3) := by decide +kernel
theorem zd_Limits_collect_31 : decode prog_5_method_2_code 31 = .ok (.iload 4, 2) := by decide +kernel
theorem zd_Limits_collect_33 : decode prog_5_method_2_code 33 = .ok (.aaload, 1) := by decide +kernel
theorem zd_Limits_collect_34 : decode prog_5_method_2_code 34 = .ok (.iload_n 3, 1) := by decide +kernel
theorem zd_Limits_collect_35 : decode prog_5_method_2_code 35 = .ok (.iaload, 1) := by decide +kernel
theorem zd_Limits_collect_36 : decode prog_5_method_2_code 36 = .ok (.invokevirtual 32, 3) := by decide +kernel
theorem zd_Limits_collect_39 : decode prog_5_method_2_code 39 = .ok (.iinc 4 1, 3) := by decide +kernel
theorem zd_Limits_collect_42 : decode prog_5_method_2_code 42 = .ok (.goto (-34), 3) := by decide +kernel
theorem zd_Limits_collect_45 : decode prog_5_method_2_code 45 = .ok (.return_, 1) := by decide +kernel
def zm_Limits_insert : zg_M := (⟨"SurrogateTree$Limits", "insert", "(I)V"⟩, prog_5_method_3_code, 4, none)
theorem zd_Limits_insert_0 : decode prog_5_method_3_code 0 = .ok (.iconst 0, 1) := by decide +kernel
theorem zd_Limits_insert_1 : decode prog_5_method_3_code 1 = .ok (.istore_n 2, 1) := by decide +kernel
theorem zd_Limits_insert_2 : decode prog_5_method_3_code 2 = .ok (.iload_n 2, 1) := by decide +kernel
theorem zd_Limits_insert_3 : decode prog_5_method_3_code 3 = .ok (.aload_n 0, 1) := by decide +kernel
theorem zd_Limits_insert_4 : decode prog_5_method_3_code 4 = .ok (.getfield 15, 3) := by decide +kernel
theorem zd_Limits_insert_7 : decode prog_5_method_3_code 7 = .ok (.if_icmp .ge 19, 3) := by decide +kernel
theorem zd_Limits_insert_10 : decode prog_5_method_3_code 10 = .ok (.aload_n 0, 1) := by decide +kernel
theorem zd_Limits_insert_11 : decode prog_5_method_3_code 11 = .ok (.getfield 9, 3) := by decide +kernel
theorem zd_Limits_insert_14 : decode prog_5_method_3_code 14 = .ok (.iload_n 2, 1) := by decide +kernel
theorem zd_Limits_insert_15 : decode prog_5_method_3_code 15 = .ok (.iaload, 1) := by decide +kernel
theorem zd_Limits_insert_16 : decode prog_5_method_3_code 16 = .ok (.iload_n 1, 1) := by decide +kernel
theorem zd_Limits_insert_17 : decode prog_5_method_3_code 17 = .ok (.if_icmp .ge 9, 3) := by decide +kernel
theorem zd_Limits_insert_20 : decode prog_5_method_3_code 20 = .ok (.iinc 2 1, 3) := by decide +kernel
theorem zd_Limits_insert_23 : decode prog_5_method_3_code 23 = .ok (.goto (-21), 3) := by decide +kernel
theorem zd_Limits_insert_26 : decode prog_5_method_3_code 26 = .ok (.iload_n 2, 1) := by decide +kernel
theorem zd_Limits_insert_27 : decode prog_5_method_3_code 27 = .ok (.aload_n 0, 1) := by decide +kernel
theorem zd_Limits_insert_28 : decode prog_5_method_3_code 28 = .ok (.getfield 15, 3) := by decide +kernel
theorem zd_Limits_insert_31 : decode prog_5_method_3_code 31 = .ok (.if_icmp .ge 14, 3) := by decide +kernel
theorem zd_Limits_insert_34 : decode prog_5_method_3_code 34 = .ok (.aload_n 0, 1) := by decide +kernel
theorem zd_Limits_insert_35 : decode prog_5_method_3_code 35 = .ok (.getfield 9, 3) := by decide +kernel
theorem zd_Limits_insert_38 : decode prog_5_method_3_code 38 = .ok (.iload_n 2, 1) := by decide +kernel
theorem zd_Limits_insert_39 : decode prog_5_method_3_code 39 = .ok (.iaload, 1) := by decide +kernel
theorem zd_Limits_insert_40 : decode prog_5_method_3_code 40 = .ok (.iload_n 1, 1) := by decide +kernel
theorem zd_Limits_insert_41 : decode prog_5_method_3_code 41 = .ok (.if_icmp .ne 4, 3) := by decide +kernel
theorem zd_Limits_insert_44 : decode prog_5_method_3_code 44 = .ok (.return_, 1) := by decide +kernel
theorem zd_Limits_insert_45 : decode prog_5_method_3_code 45 = .ok (.aload_n 0, 1) := by decide +kernel
theorem zd_Limits_insert_46 : decode prog_5_method_3_code 46 = .ok (.getfield 15, 3) := by decide +kernel
theorem zd_Limits_insert_49 : decode prog_5_method_3_code 49 = .ok (.istore_n 3, 1) := by decide +kernel
theorem zd_Limits_insert_50 : decode prog_5_method_3_code 50 = .ok (.iload_n 3, 1) := by decide +kernel
theorem zd_Limits_insert_51 : decode prog_5_method_3_code 51 = .ok (.iload_n 2, 1) := by decide +kernel
theorem zd_Limits_insert_52 : decode prog_5_method_3_code 52 = .ok (.if_icmp .le 23, 3) := by decide +kernel
theorem zd_Limits_insert_55 : decode prog_5_method_3_code 55 = .ok (.aload_n 0, 1) := by decide +kernel
theorem zd_Limits_insert_56 : decode prog_5_method_3_code 56 = .ok (.getfield 9, 3) := by decide +kernel
theorem zd_Limits_insert_59 : decode prog_5_method_3_code 59 = .ok (.iload_n 3, 1) := by decide +kernel
theorem zd_Limits_insert_60 : decode prog_5_method_3_code 60 = .ok (.aload_n 0, 1) := by decide +kernel
theorem zd_Limits_insert_61 : decode prog_5_method_3_code 61 = .ok (.getfield 9, 3) := by decide +kernel
theorem zd_Limits_insert_64 : decode prog_5_method_3_code 64 = .ok (.iload_n 3, 1) := by decide +kernel
theorem zd_Limits_insert_65 : decode prog_5_method_3_code 65 = .ok (.iconst 1, 1) := by decide +kernel
theorem zd_Limits_insert_66 : decode prog_5_method_3_code 66 = .ok (.isub, 1) := by decide +kernel
theorem zd_Limits_insert_67 : decode prog_5_method_3_code 67 = .ok (.iaload, 1) := by decide +kernel
theorem zd_Limits_insert_68 : decode prog_5_method_3_code 68 = .ok (.iastore, 1) := by decide +kernel
theorem zd_Limits_insert_69 : decode prog_5_method_3_code 69 = .ok (.iinc 3 (-1), 3) := by decide +kernel
theorem zd_Limits_insert_72 : decode prog_5_method_3_code 72 = .ok (.goto (-22), 3) := by decide +kernel
theorem zd_Limits_insert_75 : decode prog_5_method_3_code 75 = .ok (.aload_n 0, 1) := by decide +kernel
theorem zd_Limits_insert_76 : decode prog_5_method_3_code 76 = .ok (.getfield 9, 3) := by decide +kernel
theorem zd_Limits_insert_79 : decode prog_5_method_3_code 79 = .ok (.iload_n 2, 1) := by decide +kernel
theorem zd_Limits_insert_80 : decode prog_5_method_3_code 80 = .ok (.iload_n 1, 1) := by decide +kernel
theorem zd_Limits_insert_81 : decode prog_5_method_3_code 81 = .ok (.iastore, 1) := by decide +kernel
theorem zd_Limits_insert_82 : decode prog_5_method_3_code 82 = .ok (.aload_n 0, 1) := by decide +kernel
theorem zd_Limits_insert_83 : decode prog_5_method_3_code 83 = .ok (.dup, 1) := by decide +kernel
theorem zd_Limits_insert_84 : decode prog_5_method_3_code 84 = .ok (.getfield 15, 3) := by decide +kernel
theorem zd_Limits_insert_87 : decode prog_5_method_3_code 87 = .ok (.iconst 1, 1) := by decide +kernel
theorem zd_Limits_insert_88 : decode prog_5_method_3_code 88 = .ok (.iadd, 1) := by decide +kernel
theorem zd_Limits_insert_89 : decode prog_5_method_3_code 89 = .ok (.putfield 15, 3) := by decide +kernel
theorem zd_Limits_insert_92 : decode prog_5_method_3_code 92 = .ok (.return_, 1) := by decide +kernel
def zm_Limits_count : zg_M := (⟨"SurrogateTree$Limits", "count", "()I"⟩, prog_5_method_4_code, 1, (some .int))
theorem zd_Limits_count_0 : decode prog_5_method_4_code 0 = .ok (.iconst 0, 1) := by decide +kernel
theorem zd_Limits_count_1 : decode prog_5_method_4_code 1 = .ok (.aload_n 0, 1) := by decide +kernel
theorem zd_Limits_count_2 : decode prog_5_method_4_code 2 = .ok (.getfield 15, 3) := by decide +kernel
theorem zd_Limits_count_5 : decode prog_5_method_4_code 5 = .ok (.iconst 1, 1) := by decide +kernel
theorem zd_Limits_count_6 : decode prog_5_method_4_code 6 = .ok (.isub, 1) := by decide +kernel
theorem zd_Limits_count_7 : decode prog_5_method_4_code 7 = .ok (.invokestatic 36, 3) := by decide +kernel
theorem zd_Limits_count_10 : decode prog_5_method_4_code 10 = .ok (.ireturn, 1) := by decide +kernel
def zm_Limits_at : zg_M := (⟨"SurrogateTree$Limits", "at", "(I)I"⟩, prog_5_method_5_code, 2, (some .int))
theorem zd_Limits_at_0 : decode prog_5_method_5_code 0 = .ok (.aload_n 0, 1) := by decide +kernel
theorem zd_Limits_at_1 : decode prog_5_method_5_code 1 = .ok (.getfield 9, 3) := by decide +kernel
theorem zd_Limits_at_4 : decode prog_5_method_5_code 4 = .ok (.iload_n 1, 1) := by decide +kernel
theorem zd_Limits_at_5 : decode prog_5_method_5_code 5 = .ok (.iaload, 1) := by decide +kernel
theorem zd_Limits_at_6 : decode prog_5_method_5_code 6 = .ok (.i2l, 1) := by decide +kernel
theorem zd_Limits_at_7 : decode prog_5_method_5_code 7 = .ok (.aload_n 0, 1) := by decide +kernel
theorem zd_Limits_at_8 : decode prog_5_method_5_code 8 = .ok (.getfield 9, 3) := by decide +kernel
theorem zd_Limits_at_11 : decode prog_5_method_5_code 11 = .ok (.iload_n 1, 1) := by decide +kernel
theorem zd_Limits_at_12 : decode prog_5_method_5_code 12 = .ok (.iconst 1, 1) := by decide +kernel
theorem zd_Limits_at_13 : decode prog_5_method_5_code 13 = .ok (.iadd, 1) := by decide +kernel
theorem zd_Limits_at_14 : decode prog_5_method_5_code 14 = .ok (.iaload, 1) := by decide +kernel
theorem zd_Limits_at_15 : decode prog_5_method_5_code 15 = .ok (.i2l, 1) := by decide +kernel
theorem zd_Limits_at_16 : decode prog_5_method_5_code 16 = .ok (.ladd, 1) := by decide +kernel
theorem zd_Limits_at_17 : decode prog_5_method_5_code 17 = .ok (.ldc2_w 42, 3) := by decide +kernel
theorem zd_Limits_at_20 : decode prog_5_method_5_code 20 = .ok (.invokestatic 44, 3) := by decide +kernel
theorem zd_Limits_at_23 : decode prog_5_method_5_code 23 = .ok (.l2i, 1) := by decide +kernel
theorem zd_Limits_at_24 : decode prog_5_method_5_code 24 = .ok (.ireturn, 1) := by decide +kernel
def zm_Table_rowsUpTo : zg_M := (⟨"SurrogateTree$Table", "rowsUpTo", "(III)I"⟩, prog_11_method_11_code, 6, (some .int))
theorem zd_Table_rowsUpTo_0 : decode prog_11_method_11_code 0 = .ok (.iconst 0, 1) := by decide +kernel
theorem zd_Table_rowsUpTo_1 : decode prog_11_method_11_code 1 = .ok (.istore 4, 2) := by decide +kernel
theorem zd_Table_rowsUpTo_3 : decode prog_11_method_11_code 3 = .ok (.iconst 0, 1) := by decide +kernel
theorem zd_Table_rowsUpTo_4 : decode prog_11_method_11_code 4 = .ok (.istore 5, 2) := by decide +kernel
theorem zd_Table_rowsUpTo_6 : decode prog_11_method_11_code 6 = .ok (.iload 5, 2) := by decide +kernel
theorem zd_Table_rowsUpTo_8 : decode prog_11_method_11_code 8 = .ok (.aload_n 0, 1) := by decide +kernel
theorem zd_Table_rowsUpTo_9 : decode prog_11_method_11_code 9 = .ok (.getfield 23, 3) := by decide +kernel
theorem zd_Table_rowsUpTo_12 : decode prog_11_method_11_code 12 = .ok (.if_icmp .ge 40, 3) := by decide +kernel
theorem zd_Table_rowsUpTo_15 : decode prog_11_method_11_code 15 = .ok (.iload_n 1, 1) := by decide +kernel
theorem zd_Table_rowsUpTo_16 : decode prog_11_method_11_code 16 = .ok (.iload 5, 2) := by decide +kernel
theorem zd_Table_rowsUpTo_18 : decode prog_11_method_11_code 18 = .ok (.invokestatic 39, 3) := by decide +kernel
theorem zd_Table_rowsUpTo_21 : decode prog_11_method_11_code 21 = .ok (.ifCond .eq 25, 3) := by decide +kernel
theorem zd_Table_rowsUpTo_24 : decode prog_11_method_11_code 24 = .ok (.aload_n 0, 1) := by decide +kernel
theorem zd_Table_rowsUpTo_25 : decode prog_11_method_11_code 25 = .ok (.getfield 11, 3) := by decide +kernel
theorem zd_Table_rowsUpTo_28 : decode prog_11_method_11_code 28 = .ok (.iload 5, 2) := by decide +kernel
theorem zd_Table_rowsUpTo_30 : decode prog_11_method_11_code 30 = .ok (.aaload, 1) := by decide +kernel
theorem zd_Table_rowsUpTo_31 : decode prog_11_method_11_code 31 = .ok (.iload_n 2, 1) := by decide +kernel
theorem zd_Table_rowsUpTo_32 : decode prog_11_method_11_code 32 = .ok (.iaload, 1) := by decide +kernel
theorem zd_Table_rowsUpTo_33 : decode prog_11_method_11_code 33 = .ok (.iload_n 3, 1) := by decide +kernel
theorem zd_Table_rowsUpTo_34 : decode prog_11_method_11_code 34 = .ok (.if_icmp .gt 12, 3) := by decide +kernel
theorem zd_Table_rowsUpTo_37 : decode prog_11_method_11_code 37 = .ok (.iload 4, 2) := by decide +kernel
theorem zd_Table_rowsUpTo_39 : decode prog_11_method_11_code 39 = .ok (.iconst 1, 1) := by decide +kernel
theorem zd_Table_rowsUpTo_40 : decode prog_11_method_11_code 40 = .ok (.iload 5, 2) := by decide +kernel
theorem zd_Table_rowsUpTo_42 : decode prog_11_method_11_code 42 = .ok (.ishl, 1) := by decide +kernel
theorem zd_Table_rowsUpTo_43 : decode prog_11_method_11_code 43 = .ok (.ior, 1) := by decide +kernel
theorem zd_Table_rowsUpTo_44 : decode prog_11_method_11_code 44 = .ok (.istore 4, 2) := by decide +kernel
theorem zd_Table_rowsUpTo_46 : decode prog_11_method_11_code 46 = .ok (.iinc 5 1, 3) := by decide +kernel
theorem zd_Table_rowsUpTo_49 : decode prog_11_method_11_code 49 = .ok (.goto (-43), 3) := by decide +kernel
theorem zd_Table_rowsUpTo_52 : decode prog_11_method_11_code 52 = .ok (.iload 4, 2) := by decide +kernel
theorem zd_Table_rowsUpTo_54 : decode prog_11_method_11_code 54 = .ok (.ireturn, 1) := by decide +kernel
def zm_Fraction_isMoreThan : zg_M := (⟨"SurrogateTree$Fraction", "isMoreThan", "(LSurrogateTree$Fraction;)Z"⟩, prog_4_method_4_code, 2, (some .boolean))
theorem zd_Fraction_isMoreThan_0 : decode prog_4_method_4_code 0 = .ok (.aload_n 0, 1) := by decide +kernel
theorem zd_Fraction_isMoreThan_1 : decode prog_4_method_4_code 1 = .ok (.getfield 7, 3) := by decide +kernel
theorem zd_Fraction_isMoreThan_4 : decode prog_4_method_4_code 4 = .ok (.aload_n 1, 1) := by decide +kernel
theorem zd_Fraction_isMoreThan_5 : decode prog_4_method_4_code 5 = .ok (.getfield 13, 3) := by decide +kernel
theorem zd_Fraction_isMoreThan_8 : decode prog_4_method_4_code 8 = .ok (.lmul, 1) := by decide +kernel
theorem zd_Fraction_isMoreThan_9 : decode prog_4_method_4_code 9 = .ok (.aload_n 1, 1) := by decide +kernel
theorem zd_Fraction_isMoreThan_10 : decode prog_4_method_4_code 10 = .ok (.getfield 7, 3) := by decide +kernel
theorem zd_Fraction_isMoreThan_13 : decode prog_4_method_4_code 13 = .ok (.aload_n 0, 1) := by decide +kernel
theorem zd_Fraction_isMoreThan_14 : decode prog_4_method_4_code 14 = .ok (.getfield 13, 3) := by decide +kernel
theorem zd_Fraction_isMoreThan_17 : decode prog_4_method_4_code 17 = .ok (.lmul, 1) := by decide +kernel
theorem zd_Fraction_isMoreThan_18 : decode prog_4_method_4_code 18 = .ok (.lcmp, 1) := by decide +kernel
theorem zd_Fraction_isMoreThan_19 : decode prog_4_method_4_code 19 = .ok (.ifCond .le 7, 3) := by decide +kernel
theorem zd_Fraction_isMoreThan_22 : decode prog_4_method_4_code 22 = .ok (.iconst 1, 1) := by decide +kernel
theorem zd_Fraction_isMoreThan_23 : decode prog_4_method_4_code 23 = .ok (.goto 4, 3) := by decide +kernel
theorem zd_Fraction_isMoreThan_26 : decode prog_4_method_4_code 26 = .ok (.iconst 0, 1) := by decide +kernel
theorem zd_Fraction_isMoreThan_27 : decode prog_4_method_4_code 27 = .ok (.ireturn, 1) := by decide +kernel
def zm_Fraction_copyFrom : zg_M := (⟨"SurrogateTree$Fraction", "copyFrom", "(LSurrogateTree$Fraction;)V"⟩, prog_4_method_3_code, 2, none)
theorem zd_Fraction_copyFrom_0 : decode prog_4_method_3_code 0 = .ok (.aload_n 0, 1) := by decide +kernel
theorem zd_Fraction_copyFrom_1 : decode prog_4_method_3_code 1 = .ok (.aload_n 1, 1) := by decide +kernel
theorem zd_Fraction_copyFrom_2 : decode prog_4_method_3_code 2 = .ok (.getfield 7, 3) := by decide +kernel
theorem zd_Fraction_copyFrom_5 : decode prog_4_method_3_code 5 = .ok (.putfield 7, 3) := by decide +kernel
theorem zd_Fraction_copyFrom_8 : decode prog_4_method_3_code 8 = .ok (.aload_n 0, 1) := by decide +kernel
theorem zd_Fraction_copyFrom_9 : decode prog_4_method_3_code 9 = .ok (.aload_n 1, 1) := by decide +kernel
theorem zd_Fraction_copyFrom_10 : decode prog_4_method_3_code 10 = .ok (.getfield 13, 3) := by decide +kernel
theorem zd_Fraction_copyFrom_13 : decode prog_4_method_3_code 13 = .ok (.putfield 13, 3) := by decide +kernel
theorem zd_Fraction_copyFrom_16 : decode prog_4_method_3_code 16 = .ok (.return_, 1) := by decide +kernel
def zm_Node_addStandIn : zg_M := (⟨"SurrogateTree$Node", "addStandIn", "(LSurrogateTree$StandIn;)V"⟩, prog_6_method_4_code, 3, none)
theorem zd_Node_addStandIn_0 : decode prog_6_method_4_code 0 = .ok (.aload_n 0, 1) := by decide +kernel
theorem zd_Node_addStandIn_1 : decode prog_6_method_4_code 1 = .ok (.getfield 45, 3) := by decide +kernel
theorem zd_Node_addStandIn_4 : decode prog_6_method_4_code 4 = .ok (.istore_n 2, 1) := by decide +kernel
theorem zd_Node_addStandIn_5 : decode prog_6_method_4_code 5 = .ok (.iload_n 2, 1) := by decide +kernel
theorem zd_Node_addStandIn_6 : decode prog_6_method_4_code 6 = .ok (.iconst 1, 1) := by decide +kernel
theorem zd_Node_addStandIn_7 : decode prog_6_method_4_code 7 = .ok (.if_icmp .ne 36, 3) := by decide +kernel
theorem zd_Node_addStandIn_10 : decode prog_6_method_4_code 10 = .ok (.aload_n 1, 1) := by decide +kernel
theorem zd_Node_addStandIn_11 : decode prog_6_method_4_code 11 = .ok (.getfield 48, 3) := by decide +kernel
theorem zd_Node_addStandIn_14 : decode prog_6_method_4_code 14 = .ok (.aload_n 0, 1) := by decide +kernel
theorem zd_Node_addStandIn_15 : decode prog_6_method_4_code 15 = .ok (.getfield 20, 3) := by decide +kernel
theorem zd_Node_addStandIn_18 : decode prog_6_method_4_code 18 = .ok (.iconst 0, 1) := by decide +kernel
theorem zd_Node_addStandIn_19 : decode prog_6_method_4_code 19 = .ok (.aaload, 1) := by decide +kernel
theorem zd_Node_addStandIn_20 : decode prog_6_method_4_code 20 = .ok (.getfield 48, 3) := by decide +kernel
theorem zd_Node_addStandIn_23 : decode prog_6_method_4_code 23 = .ok (.if_icmp .le 20, 3) := by decide +kernel
theorem zd_Node_addStandIn_26 : decode prog_6_method_4_code 26 = .ok (.aload_n 0, 1) := by decide +kernel
theorem zd_Node_addStandIn_27 : decode prog_6_method_4_code 27 = .ok (.getfield 20, 3) := by decide +kernel
theorem zd_Node_addStandIn_30 : decode prog_6_method_4_code 30 = .ok (.iconst 1, 1) := by decide +kernel
theorem zd_Node_addStandIn_31 : decode prog_6_method_4_code 31 = .ok (.aaload, 1) := by decide +kernel
theorem zd_Node_addStandIn_32 : decode prog_6_method_4_code 32 = .ok (.aload_n 0, 1) := by decide +kernel
theorem zd_Node_addStandIn_33 : decode prog_6_method_4_code 33 = .ok (.getfield 20, 3) := by decide +kernel
theorem zd_Node_addStandIn_36 : decode prog_6_method_4_code 36 = .ok (.iconst 0, 1) := by decide +kernel
theorem zd_Node_addStandIn_37 : decode prog_6_method_4_code 37 = .ok (.aaload, 1) := by decide +kernel
theorem zd_Node_addStandIn_38 : decode prog_6_method_4_code 38 = .ok (.invokevirtual 51, 3) := by decide +kernel
theorem zd_Node_addStandIn_41 : decode prog_6_method_4_code 41 = .ok (.iconst 0, 1) := by decide +kernel
theorem zd_Node_addStandIn_42 : decode prog_6_method_4_code 42 = .ok (.istore_n 2, 1) := by decide +kernel
theorem zd_Node_addStandIn_43 : decode prog_6_method_4_code 43 = .ok (.aload_n 0, 1) := by decide +kernel
theorem zd_Node_addStandIn_44 : decode prog_6_method_4_code 44 = .ok (.getfield 20, 3) := by decide +kernel
theorem zd_Node_addStandIn_47 : decode prog_6_method_4_code 47 = .ok (.iload_n 2, 1) := by decide +kernel
theorem zd_Node_addStandIn_48 : decode prog_6_method_4_code 48 = .ok (.aaload, 1) := by decide +kernel
theorem zd_Node_addStandIn_49 : decode prog_6_method_4_code 49 = .ok (.aload_n 1, 1) := by decide +kernel
theorem zd_Node_addStandIn_50 : decode prog_6_method_4_code 50 = .ok (.invokevirtual 51, 3) := by decide +kernel
theorem zd_Node_addStandIn_53 : decode prog_6_method_4_code 53 = .ok (.aload_n 0, 1) := by decide +kernel
theorem zd_Node_addStandIn_54 : decode prog_6_method_4_code 54 = .ok (.dup, 1) := by decide +kernel
theorem zd_Node_addStandIn_55 : decode prog_6_method_4_code 55 = .ok (.getfield 45, 3) := by decide +kernel
theorem zd_Node_addStandIn_58 : decode prog_6_method_4_code 58 = .ok (.iconst 1, 1) := by decide +kernel
theorem zd_Node_addStandIn_59 : decode prog_6_method_4_code 59 = .ok (.iadd, 1) := by decide +kernel
theorem zd_Node_addStandIn_60 : decode prog_6_method_4_code 60 = .ok (.putfield 45, 3) := by decide +kernel
theorem zd_Node_addStandIn_63 : decode prog_6_method_4_code 63 = .ok (.return_, 1) := by decide +kernel
def zm_StandIn_copyFrom : zg_M := (⟨"SurrogateTree$StandIn", "copyFrom", "(LSurrogateTree$StandIn;)V"⟩, prog_9_method_2_code, 2, none)
theorem zd_StandIn_copyFrom_0 : decode prog_9_method_2_code 0 = .ok (.aload_n 0, 1) := by decide +kernel
theorem zd_StandIn_copyFrom_1 : decode prog_9_method_2_code 1 = .ok (.aload_n 1, 1) := by decide +kernel
theorem zd_StandIn_copyFrom_2 : decode prog_9_method_2_code 2 = .ok (.getfield 7, 3) := by decide +kernel
theorem zd_StandIn_copyFrom_5 : decode prog_9_method_2_code 5 = .ok (.putfield 7, 3) := by decide +kernel
theorem zd_StandIn_copyFrom_8 : decode prog_9_method_2_code 8 = .ok (.aload_n 0, 1) := by decide +kernel
theorem zd_StandIn_copyFrom_9 : decode prog_9_method_2_code 9 = .ok (.aload_n 1, 1) := by decide +kernel
theorem zd_StandIn_copyFrom_10 : decode prog_9_method_2_code 10 = .ok (.getfield 13, 3) := by decide +kernel
theorem zd_StandIn_copyFrom_13 : decode prog_9_method_2_code 13 = .ok (.putfield 13, 3) := by decide +kernel
theorem zd_StandIn_copyFrom_16 : decode prog_9_method_2_code 16 = .ok (.aload_n 0, 1) := by decide +kernel
theorem zd_StandIn_copyFrom_17 : decode prog_9_method_2_code 17 = .ok (.aload_n 1, 1) := by decide +kernel
theorem zd_StandIn_copyFrom_18 : decode prog_9_method_2_code 18 = .ok (.getfield 16, 3) := by decide +kernel
theorem zd_StandIn_copyFrom_21 : decode prog_9_method_2_code 21 = .ok (.putfield 16, 3) := by decide +kernel
theorem zd_StandIn_copyFrom_24 : decode prog_9_method_2_code 24 = .ok (.aload_n 0, 1) := by decide +kernel
theorem zd_StandIn_copyFrom_25 : decode prog_9_method_2_code 25 = .ok (.aload_n 1, 1) := by decide +kernel
theorem zd_StandIn_copyFrom_26 : decode prog_9_method_2_code 26 = .ok (.getfield 20, 3) := by decide +kernel
theorem zd_StandIn_copyFrom_29 : decode prog_9_method_2_code 29 = .ok (.putfield 20, 3) := by decide +kernel
theorem zd_StandIn_copyFrom_32 : decode prog_9_method_2_code 32 = .ok (.return_, 1) := by decide +kernel
def zm_Node_rowsGoingLeft : zg_M := (⟨"SurrogateTree$Node", "rowsGoingLeft", "(LSurrogateTree$Table;)I"⟩, prog_6_method_6_code, 4, (some .int))
theorem zd_Node_rowsGoingLeft_0 : decode prog_6_method_6_code 0 = .ok (.iconst 0, 1) := by decide +kernel
theorem zd_Node_rowsGoingLeft_1 : decode prog_6_method_6_code 1 = .ok (.istore_n 2, 1) := by decide +kernel
theorem zd_Node_rowsGoingLeft_2 : decode prog_6_method_6_code 2 = .ok (.iconst 0, 1) := by decide +kernel
theorem zd_Node_rowsGoingLeft_3 : decode prog_6_method_6_code 3 = .ok (.istore_n 3, 1) := by decide +kernel
theorem zd_Node_rowsGoingLeft_4 : decode prog_6_method_6_code 4 = .ok (.iload_n 3, 1) := by decide +kernel
theorem zd_Node_rowsGoingLeft_5 : decode prog_6_method_6_code 5 = .ok (.aload_n 1, 1) := by decide +kernel
theorem zd_Node_rowsGoingLeft_6 : decode prog_6_method_6_code 6 = .ok (.getfield 71, 3) := by decide +kernel
theorem zd_Node_rowsGoingLeft_9 : decode prog_6_method_6_code 9 = .ok (.if_icmp .ge 39, 3) := by decide +kernel
theorem zd_Node_rowsGoingLeft_12 : decode prog_6_method_6_code 12 = .ok (.aload_n 0, 1) := by decide +kernel
theorem zd_Node_rowsGoingLeft_13 : decode prog_6_method_6_code 13 = .ok (.getfield 25, 3) := by decide +kernel
theorem zd_Node_rowsGoingLeft_16 : decode prog_6_method_6_code 16 = .ok (.iload_n 3, 1) := by decide +kernel
theorem zd_Node_rowsGoingLeft_17 : decode prog_6_method_6_code 17 = .ok (.invokestatic 74, 3) := by decide +kernel
theorem zd_Node_rowsGoingLeft_20 : decode prog_6_method_6_code 20 = .ok (.ifCond .eq 22, 3) := by decide +kernel
theorem zd_Node_rowsGoingLeft_23 : decode prog_6_method_6_code 23 = .ok (.aload_n 0, 1) := by decide +kernel
theorem zd_Node_rowsGoingLeft_24 : decode prog_6_method_6_code 24 = .ok (.aload_n 1, 1) := by decide +kernel
theorem zd_Node_rowsGoingLeft_25 : decode prog_6_method_6_code 25 = .ok (.getfield 78, 3) := by decide +kernel
theorem zd_Node_rowsGoingLeft_28 : decode prog_6_method_6_code 28 = .ok (.iload_n 3, 1) := by decide +kernel
theorem zd_Node_rowsGoingLeft_29 : decode prog_6_method_6_code 29 = .ok (.aaload, 1) := by decide +kernel
theorem zd_Node_rowsGoingLeft_30 : decode prog_6_method_6_code 30 = .ok (.invokevirtual 82, 3) := by decide +kernel
theorem zd_Node_rowsGoingLeft_33 : decode prog_6_method_6_code 33 = .ok (.ifCond .eq 9, 3) := by decide +kernel
theorem zd_Node_rowsGoingLeft_36 : decode prog_6_method_6_code 36 = .ok (.iload_n 2, 1) := by decide +kernel
theorem zd_Node_rowsGoingLeft_37 : decode prog_6_method_6_code 37 = .ok (.iconst 1, 1) := by decide +kernel
theorem zd_Node_rowsGoingLeft_38 : decode prog_6_method_6_code 38 = .ok (.iload_n 3, 1) := by decide +kernel
theorem zd_Node_rowsGoingLeft_39 : decode prog_6_method_6_code 39 = .ok (.ishl, 1) := by decide +kernel
theorem zd_Node_rowsGoingLeft_40 : decode prog_6_method_6_code 40 = .ok (.ior, 1) := by decide +kernel
theorem zd_Node_rowsGoingLeft_41 : decode prog_6_method_6_code 41 = .ok (.istore_n 2, 1) := by decide +kernel
theorem zd_Node_rowsGoingLeft_42 : decode prog_6_method_6_code 42 = .ok (.iinc 3 1, 3) := by decide +kernel
theorem zd_Node_rowsGoingLeft_45 : decode prog_6_method_6_code 45 = .ok (.goto (-41), 3) := by decide +kernel
theorem zd_Node_rowsGoingLeft_48 : decode prog_6_method_6_code 48 = .ok (.iload_n 2, 1) := by decide +kernel
theorem zd_Node_rowsGoingLeft_49 : decode prog_6_method_6_code 49 = .ok (.ireturn, 1) := by decide +kernel
def zm_Node_sendsLeft : zg_M := (⟨"SurrogateTree$Node", "sendsLeft", "([I)Z"⟩, prog_6_method_5_code, 4, (some .boolean))
theorem zd_Node_sendsLeft_0 : decode prog_6_method_5_code 0 = .ok (.aload_n 1, 1) := by decide +kernel
theorem zd_Node_sendsLeft_1 : decode prog_6_method_5_code 1 = .ok (.aload_n 0, 1) := by decide +kernel
theorem zd_Node_sendsLeft_2 : decode prog_6_method_5_code 2 = .ok (.getfield 55, 3) := by decide +kernel
theorem zd_Node_sendsLeft_5 : decode prog_6_method_5_code 5 = .ok (.iaload, 1) := by decide +kernel
theorem zd_Node_sendsLeft_6 : decode prog_6_method_5_code 6 = .ok (.ldc 58, 2) := by decide +kernel
theorem zd_Node_sendsLeft_8 : decode prog_6_method_5_code 8 = .ok (.if_icmp .eq 22, 3) := by decide +kernel
theorem zd_Node_sendsLeft_11 : decode prog_6_method_5_code 11 = .ok (.aload_n 1, 1) := by decide +kernel
theorem zd_Node_sendsLeft_12 : decode prog_6_method_5_code 12 = .ok (.aload_n 0, 1) := by decide +kernel
theorem zd_Node_sendsLeft_13 : decode prog_6_method_5_code 13 = .ok (.getfield 55, 3) := by decide +kernel
theorem zd_Node_sendsLeft_16 : decode prog_6_method_5_code 16 = .ok (.iaload, 1) := by decide +kernel
theorem zd_Node_sendsLeft_17 : decode prog_6_method_5_code 17 = .ok (.aload_n 0, 1) := by decide +kernel
theorem zd_Node_sendsLeft_18 : decode prog_6_method_5_code 18 = .ok (.getfield 59, 3) := by decide +kernel
theorem zd_Node_sendsLeft_21 : decode prog_6_method_5_code 21 = .ok (.if_icmp .gt 7, 3) := by decide +kernel
theorem zd_Node_sendsLeft_24 : decode prog_6_method_5_code 24 = .ok (.iconst 1, 1) := by decide +kernel
theorem zd_Node_sendsLeft_25 : decode prog_6_method_5_code 25 = .ok (.goto 4, 3) := by decide +kernel
theorem zd_Node_sendsLeft_28 : decode prog_6_method_5_code 28 = .ok (.iconst 0, 1) := by decide +kernel
theorem zd_Node_sendsLeft_29 : decode prog_6_method_5_code 29 = .ok (.ireturn, 1) := by decide +kernel
theorem zd_Node_sendsLeft_30 : decode prog_6_method_5_code 30 = .ok (.iconst 0, 1) := by decide +kernel
theorem zd_Node_sendsLeft_31 : decode prog_6_method_5_code 31 = .ok (.istore_n 2, 1) := by decide +kernel
theorem zd_Node_sendsLeft_32 : decode prog_6_method_5_code 32 = .ok (.iload_n 2, 1) := by decide +kernel
theorem zd_Node_sendsLeft_33 : decode prog_6_method_5_code 33 = .ok (.aload_n 0, 1) := by decide +kernel
theorem zd_Node_sendsLeft_34 : decode prog_6_method_5_code 34 = .ok (.getfield 45, 3) := by decide +kernel
theorem zd_Node_sendsLeft_37 : decode prog_6_method_5_code 37 = .ok (.if_icmp .ge 38, 3) := by decide +kernel
theorem zd_Node_sendsLeft_40 : decode prog_6_method_5_code 40 = .ok (.aload_n 1, 1) := by decide +kernel
theorem zd_Node_sendsLeft_41 : decode prog_6_method_5_code 41 = .ok (.aload_n 0, 1) := by decide +kernel
theorem zd_Node_sendsLeft_42 : decode prog_6_method_5_code 42 = .ok (.getfield 20, 3) := by decide +kernel
theorem zd_Node_sendsLeft_45 : decode prog_6_method_5_code 45 = .ok (.iload_n 2, 1) := by decide +kernel
theorem zd_Node_sendsLeft_46 : decode prog_6_method_5_code 46 = .ok (.aaload, 1) := by decide +kernel
theorem zd_Node_sendsLeft_47 : decode prog_6_method_5_code 47 = .ok (.getfield 62, 3) := by decide +kernel
theorem zd_Node_sendsLeft_50 : decode prog_6_method_5_code 50 = .ok (.iaload, 1) := by decide +kernel
theorem zd_Node_sendsLeft_51 : decode prog_6_method_5_code 51 = .ok (.istore_n 3, 1) := by decide +kernel
theorem zd_Node_sendsLeft_52 : decode prog_6_method_5_code 52 = .ok (.iload_n 3, 1) := by decide +kernel
theorem zd_Node_sendsLeft_53 : decode prog_6_method_5_code 53 = .ok (.ldc 58, 2) := by decide +kernel
theorem zd_Node_sendsLeft_55 : decode prog_6_method_5_code 55 = .ok (.if_icmp .eq 14, 3) := by decide +kernel
theorem zd_Node_sendsLeft_58 : decode prog_6_method_5_code 58 = .ok (.aload_n 0, 1) := by decide +kernel
theorem zd_Node_sendsLeft_59 : decode prog_6_method_5_code 59 = .ok (.getfield 20, 3) := by decide +kernel
theorem zd_Node_sendsLeft_62 : decode prog_6_method_5_code 62 = .ok (.iload_n 2, 1) := by decide +kernel
theorem zd_Node_sendsLeft_63 : decode prog_6_method_5_code 63 = .ok (.aaload, 1) := by decide +kernel
theorem zd_Node_sendsLeft_64 : decode prog_6_method_5_code 64 = .ok (.iload_n 3, 1) := by decide +kernel
theorem zd_Node_sendsLeft_65 : decode prog_6_method_5_code 65 = .ok (.invokevirtual 63, 3) := by decide +kernel
theorem zd_Node_sendsLeft_68 : decode prog_6_method_5_code 68 = .ok (.ireturn, 1) := by decide +kernel
theorem zd_Node_sendsLeft_69 : decode prog_6_method_5_code 69 = .ok (.iinc 2 1, 3) := by decide +kernel
theorem zd_Node_sendsLeft_72 : decode prog_6_method_5_code 72 = .ok (.goto (-40), 3) := by decide +kernel
theorem zd_Node_sendsLeft_75 : decode prog_6_method_5_code 75 = .ok (.aload_n 0, 1) := by decide +kernel
theorem zd_Node_sendsLeft_76 : decode prog_6_method_5_code 76 = .ok (.getfield 67, 3) := by decide +kernel
theorem zd_Node_sendsLeft_79 : decode prog_6_method_5_code 79 = .ok (.ireturn, 1) := by decide +kernel
def zm_StandIn_sendsLeft : zg_M := (⟨"SurrogateTree$StandIn", "sendsLeft", "(I)Z"⟩, prog_9_method_3_code, 2, (some .boolean))
theorem zd_StandIn_sendsLeft_0 : decode prog_9_method_3_code 0 = .ok (.iload_n 1, 1) := by decide +kernel
theorem zd_StandIn_sendsLeft_1 : decode prog_9_method_3_code 1 = .ok (.aload_n 0, 1) := by decide +kernel
theorem zd_StandIn_sendsLeft_2 : decode prog_9_method_3_code 2 = .ok (.getfield 13, 3) := by decide +kernel
theorem zd_StandIn_sendsLeft_5 : decode prog_9_method_3_code 5 = .ok (.if_icmp .gt 7, 3) := by decide +kernel
theorem zd_StandIn_sendsLeft_8 : decode prog_9_method_3_code 8 = .ok (.iconst 1, 1) := by decide +kernel
theorem zd_StandIn_sendsLeft_9 : decode prog_9_method_3_code 9 = .ok (.goto 4, 3) := by decide +kernel
theorem zd_StandIn_sendsLeft_12 : decode prog_9_method_3_code 12 = .ok (.iconst 0, 1) := by decide +kernel
theorem zd_StandIn_sendsLeft_13 : decode prog_9_method_3_code 13 = .ok (.aload_n 0, 1) := by decide +kernel
theorem zd_StandIn_sendsLeft_14 : decode prog_9_method_3_code 14 = .ok (.getfield 16, 3) := by decide +kernel
theorem zd_StandIn_sendsLeft_17 : decode prog_9_method_3_code 17 = .ok (.if_icmp .eq 7, 3) := by decide +kernel
theorem zd_StandIn_sendsLeft_20 : decode prog_9_method_3_code 20 = .ok (.iconst 1, 1) := by decide +kernel
theorem zd_StandIn_sendsLeft_21 : decode prog_9_method_3_code 21 = .ok (.goto 4, 3) := by decide +kernel
theorem zd_StandIn_sendsLeft_24 : decode prog_9_method_3_code 24 = .ok (.iconst 0, 1) := by decide +kernel
theorem zd_StandIn_sendsLeft_25 : decode prog_9_method_3_code 25 = .ok (.ireturn, 1) := by decide +kernel
def zm_Shape_at : zg_M := (⟨"SurrogateTree$Shape", "at", "(I)I"⟩, prog_7_method_3_code, 2, (some .int))
theorem zd_Shape_at_0 : decode prog_7_method_3_code 0 = .ok (.iload_n 1, 1) := by decide +kernel
theorem zd_Shape_at_1 : decode prog_7_method_3_code 1 = .ok (.iconst 1, 1) := by decide +kernel
theorem zd_Shape_at_2 : decode prog_7_method_3_code 2 = .ok (.if_icmp .lt 18, 3) := by decide +kernel
theorem zd_Shape_at_5 : decode prog_7_method_3_code 5 = .ok (.iload_n 1, 1) := by decide +kernel
theorem zd_Shape_at_6 : decode prog_7_method_3_code 6 = .ok (.bipush 32, 2) := by decide +kernel
theorem zd_Shape_at_8 : decode prog_7_method_3_code 8 = .ok (.if_icmp .ge 12, 3) := by decide +kernel
theorem zd_Shape_at_11 : decode prog_7_method_3_code 11 = .ok (.aload_n 0, 1) := by decide +kernel
theorem zd_Shape_at_12 : decode prog_7_method_3_code 12 = .ok (.getfield 9, 3) := by decide +kernel
theorem zd_Shape_at_15 : decode prog_7_method_3_code 15 = .ok (.iload_n 1, 1) := by decide +kernel
theorem zd_Shape_at_16 : decode prog_7_method_3_code 16 = .ok (.iaload, 1) := by decide +kernel
theorem zd_Shape_at_17 : decode prog_7_method_3_code 17 = .ok (.goto 4, 3) := by decide +kernel
theorem zd_Shape_at_20 : decode prog_7_method_3_code 20 = .ok (.iconst (-1), 1) := by decide +kernel
theorem zd_Shape_at_21 : decode prog_7_method_3_code 21 = .ok (.ireturn, 1) := by decide +kernel
def zm_Node_hasStandIn : zg_M := (⟨"SurrogateTree$Node", "hasStandIn", "(I)Z"⟩, prog_6_method_3_code, 2, (some .boolean))
theorem zd_Node_hasStandIn_0 : decode prog_6_method_3_code 0 = .ok (.iload_n 1, 1) := by decide +kernel
theorem zd_Node_hasStandIn_1 : decode prog_6_method_3_code 1 = .ok (.iconst 1, 1) := by decide +kernel
theorem zd_Node_hasStandIn_2 : decode prog_6_method_3_code 2 = .ok (.if_icmp .lt 15, 3) := by decide +kernel
theorem zd_Node_hasStandIn_5 : decode prog_6_method_3_code 5 = .ok (.iload_n 1, 1) := by decide +kernel
theorem zd_Node_hasStandIn_6 : decode prog_6_method_3_code 6 = .ok (.aload_n 0, 1) := by decide +kernel
theorem zd_Node_hasStandIn_7 : decode prog_6_method_3_code 7 = .ok (.getfield 45, 3) := by decide +kernel
theorem zd_Node_hasStandIn_10 : decode prog_6_method_3_code 10 = .ok (.if_icmp .gt 7, 3) := by decide +kernel
theorem zd_Node_hasStandIn_13 : decode prog_6_method_3_code 13 = .ok (.iconst 1, 1) := by decide +kernel
theorem zd_Node_hasStandIn_14 : decode prog_6_method_3_code 14 = .ok (.goto 4, 3) := by decide +kernel
theorem zd_Node_hasStandIn_17 : decode prog_6_method_3_code 17 = .ok (.iconst 0, 1) := by decide +kernel
theorem zd_Node_hasStandIn_18 : decode prog_6_method_3_code 18 = .ok (.ireturn, 1) := by decide +kernel
def zm_StandIn_code : zg_M := (⟨"SurrogateTree$StandIn", "code", "()I"⟩, prog_9_method_4_code, 1, (some .int))
theorem zd_StandIn_code_0 : decode prog_9_method_4_code 0 = .ok (.aload_n 0, 1) := by decide +kernel
theorem zd_StandIn_code_1 : decode prog_9_method_4_code 1 = .ok (.getfield 7, 3) := by decide +kernel
theorem zd_StandIn_code_4 : decode prog_9_method_4_code 4 = .ok (.aload_n 0, 1) := by decide +kernel
theorem zd_StandIn_code_5 : decode prog_9_method_4_code 5 = .ok (.getfield 16, 3) := by decide +kernel
theorem zd_StandIn_code_8 : decode prog_9_method_4_code 8 = .ok (.ifCond .eq 7, 3) := by decide +kernel
theorem zd_StandIn_code_11 : decode prog_9_method_4_code 11 = .ok (.iconst 4, 1) := by decide +kernel
theorem zd_StandIn_code_12 : decode prog_9_method_4_code 12 = .ok (.goto 4, 3) := by decide +kernel
theorem zd_StandIn_code_15 : decode prog_9_method_4_code 15 = .ok (.iconst 0, 1) := by decide +kernel
theorem zd_StandIn_code_16 : decode prog_9_method_4_code 16 = .ok (.iadd, 1) := by decide +kernel
theorem zd_StandIn_code_17 : decode prog_9_method_4_code 17 = .ok (.bipush 8, 2) := by decide +kernel
theorem zd_StandIn_code_19 : decode prog_9_method_4_code 19 = .ok (.aload_n 0, 1) := by decide +kernel
theorem zd_StandIn_code_20 : decode prog_9_method_4_code 20 = .ok (.getfield 20, 3) := by decide +kernel
theorem zd_StandIn_code_23 : decode prog_9_method_4_code 23 = .ok (.imul, 1) := by decide +kernel
theorem zd_StandIn_code_24 : decode prog_9_method_4_code 24 = .ok (.iadd, 1) := by decide +kernel
theorem zd_StandIn_code_25 : decode prog_9_method_4_code 25 = .ok (.ireturn, 1) := by decide +kernel
def zm_Shape_dropOrphans : zg_M := (⟨"SurrogateTree$Shape", "dropOrphans", "()V"⟩, prog_7_method_6_code, 2, none)
theorem zd_Shape_dropOrphans_0 : decode prog_7_method_6_code 0 = .ok (.iconst 2, 1) := by decide +kernel
theorem zd_Shape_dropOrphans_1 : decode prog_7_method_6_code 1 = .ok (.istore_n 1, 1) := by decide +kernel
theorem zd_Shape_dropOrphans_2 : decode prog_7_method_6_code 2 = .ok (.iload_n 1, 1) := by decide +kernel
theorem zd_Shape_dropOrphans_3 : decode prog_7_method_6_code 3 = .ok (.bipush 32, 2) := by decide +kernel
theorem zd_Shape_dropOrphans_5 : decode prog_7_method_6_code 5 = .ok (.if_icmp .ge 28, 3) := by decide +kernel
theorem zd_Shape_dropOrphans_8 : decode prog_7_method_6_code 8 = .ok (.aload_n 0, 1) := by decide +kernel
theorem zd_Shape_dropOrphans_9 : decode prog_7_method_6_code 9 = .ok (.getfield 9, 3) := by decide +kernel
theorem zd_Shape_dropOrphans_12 : decode prog_7_method_6_code 12 = .ok (.iload_n 1, 1) := by decide +kernel
theorem zd_Shape_dropOrphans_13 : decode prog_7_method_6_code 13 = .ok (.iconst 2, 1) := by decide +kernel
theorem zd_Shape_dropOrphans_14 : decode prog_7_method_6_code 14 = .ok (.idiv, 1) := by decide +kernel
theorem zd_Shape_dropOrphans_15 : decode prog_7_method_6_code 15 = .ok (.iaload, 1) := by decide +kernel
theorem zd_Shape_dropOrphans_16 : decode prog_7_method_6_code 16 = .ok (.iconst 2, 1) := by decide +kernel
theorem zd_Shape_dropOrphans_17 : decode prog_7_method_6_code 17 = .ok (.if_icmp .eq 10, 3) := by decide +kernel
theorem zd_Shape_dropOrphans_20 : decode prog_7_method_6_code 20 = .ok (.aload_n 0, 1) := by decide +kernel
theorem zd_Shape_dropOrphans_21 : decode prog_7_method_6_code 21 = .ok (.getfield 9, 3) := by decide +kernel
theorem zd_Shape_dropOrphans_24 : decode prog_7_method_6_code 24 = .ok (.iload_n 1, 1) := by decide +kernel
theorem zd_Shape_dropOrphans_25 : decode prog_7_method_6_code 25 = .ok (.iconst (-1), 1) := by decide +kernel
theorem zd_Shape_dropOrphans_26 : decode prog_7_method_6_code 26 = .ok (.iastore, 1) := by decide +kernel
theorem zd_Shape_dropOrphans_27 : decode prog_7_method_6_code 27 = .ok (.iinc 1 1, 3) := by decide +kernel
theorem zd_Shape_dropOrphans_30 : decode prog_7_method_6_code 30 = .ok (.goto (-28), 3) := by decide +kernel
theorem zd_Shape_dropOrphans_33 : decode prog_7_method_6_code 33 = .ok (.return_, 1) := by decide +kernel
def zm_Shape_leaves : zg_M := (⟨"SurrogateTree$Shape", "leaves", "()I"⟩, prog_7_method_5_code, 3, (some .int))
theorem zd_Shape_leaves_0 : decode prog_7_method_5_code 0 = .ok (.iconst 0, 1) := by decide +kernel
theorem zd_Shape_leaves_1 : decode prog_7_method_5_code 1 = .ok (.istore_n 1, 1) := by decide +kernel
theorem zd_Shape_leaves_2 : decode prog_7_method_5_code 2 = .ok (.iconst 1, 1) := by decide +kernel
theorem zd_Shape_leaves_3 : decode prog_7_method_5_code 3 = .ok (.istore_n 2, 1) := by decide +kernel
theorem zd_Shape_leaves_4 : decode prog_7_method_5_code 4 = .ok (.iload_n 2, 1) := by decide +kernel
theorem zd_Shape_leaves_5 : decode prog_7_method_5_code 5 = .ok (.bipush 32, 2) := by decide +kernel
theorem zd_Shape_leaves_7 : decode prog_7_method_5_code 7 = .ok (.if_icmp .ge 22, 3) := by decide +kernel
theorem zd_Shape_leaves_10 : decode prog_7_method_5_code 10 = .ok (.aload_n 0, 1) := by decide +kernel
theorem zd_Shape_leaves_11 : decode prog_7_method_5_code 11 = .ok (.getfield 9, 3) := by decide +kernel
theorem zd_Shape_leaves_14 : decode prog_7_method_5_code 14 = .ok (.iload_n 2, 1) := by decide +kernel
theorem zd_Shape_leaves_15 : decode prog_7_method_5_code 15 = .ok (.iaload, 1) := by decide +kernel
theorem zd_Shape_leaves_16 : decode prog_7_method_5_code 16 = .ok (.iconst 1, 1) := by decide +kernel
theorem zd_Shape_leaves_17 : decode prog_7_method_5_code 17 = .ok (.if_icmp .ne 6, 3) := by decide +kernel
theorem zd_Shape_leaves_20 : decode prog_7_method_5_code 20 = .ok (.iinc 1 1, 3) := by decide +kernel
theorem zd_Shape_leaves_23 : decode prog_7_method_5_code 23 = .ok (.iinc 2 1, 3) := by decide +kernel
theorem zd_Shape_leaves_26 : decode prog_7_method_5_code 26 = .ok (.goto (-22), 3) := by decide +kernel
theorem zd_Shape_leaves_29 : decode prog_7_method_5_code 29 = .ok (.iload_n 1, 1) := by decide +kernel
theorem zd_Shape_leaves_30 : decode prog_7_method_5_code 30 = .ok (.ireturn, 1) := by decide +kernel
def zm_Ballot_add : zg_M := (⟨"SurrogateTree$Ballot", "add", "(II)V"⟩, prog_2_method_3_code, 3, none)
theorem zd_Ballot_add_0 : decode prog_2_method_3_code 0 = .ok (.aload_n 0, 1) := by decide +kernel
theorem zd_Ballot_add_1 : decode prog_2_method_3_code 1 = .ok (.getfield 11, 3) := by decide +kernel
theorem zd_Ballot_add_4 : decode prog_2_method_3_code 4 = .ok (.iload_n 1, 1) := by decide +kernel
theorem zd_Ballot_add_5 : decode prog_2_method_3_code 5 = .ok (.aaload, 1) := by decide +kernel
theorem zd_Ballot_add_6 : decode prog_2_method_3_code 6 = .ok (.iload_n 2, 1) := by decide +kernel
theorem zd_Ballot_add_7 : decode prog_2_method_3_code 7 = .ok (.dup2, 1) := by decide +kernel
theorem zd_Ballot_add_8 : decode prog_2_method_3_code 8 = .ok (.iaload, 1) := by decide +kernel
theorem zd_Ballot_add_9 : decode prog_2_method_3_code 9 = .ok (.iconst 1, 1) := by decide +kernel
theorem zd_Ballot_add_10 : decode prog_2_method_3_code 10 = .ok (.iadd, 1) := by decide +kernel
theorem zd_Ballot_add_11 : decode prog_2_method_3_code 11 = .ok (.iastore, 1) := by decide +kernel
theorem zd_Ballot_add_12 : decode prog_2_method_3_code 12 = .ok (.return_, 1) := by decide +kernel
def zm_Ballot_choice : zg_M := (⟨"SurrogateTree$Ballot", "choice", "(I)I"⟩, prog_2_method_4_code, 5, (some .int))
theorem zd_Ballot_choice_0 : decode prog_2_method_4_code 0 = .ok (.iconst (-1), 1) := by decide +kernel
theorem zd_Ballot_choice_1 : decode prog_2_method_4_code 1 = .ok (.istore_n 2, 1) := by decide +kernel
theorem zd_Ballot_choice_2 : decode prog_2_method_4_code 2 = .ok (.iconst 0, 1) := by decide +kernel
theorem zd_Ballot_choice_3 : decode prog_2_method_4_code 3 = .ok (.istore_n 3, 1) := by decide +kernel
theorem zd_Ballot_choice_4 : decode prog_2_method_4_code 4 = .ok (.iconst 0, 1) := by decide +kernel
theorem zd_Ballot_choice_5 : decode prog_2_method_4_code 5 = .ok (.istore 4, 2) := by decide +kernel
theorem zd_Ballot_choice_7 : decode prog_2_method_4_code 7 = .ok (.iload 4, 2) := by decide +kernel
theorem zd_Ballot_choice_9 : decode prog_2_method_4_code 9 = .ok (.iconst 4, 1) := by decide +kernel
theorem zd_Ballot_choice_10 : decode prog_2_method_4_code 10 = .ok (.if_icmp .ge 35, 3) := by decide +kernel
theorem zd_Ballot_choice_13 : decode prog_2_method_4_code 13 = .ok (.aload_n 0, 1) := by decide +kernel
theorem zd_Ballot_choice_14 : decode prog_2_method_4_code 14 = .ok (.getfield 11, 3) := by decide +kernel
theorem zd_Ballot_choice_17 : decode prog_2_method_4_code 17 = .ok (.iload_n 1, 1) := by decide +kernel
theorem zd_Ballot_choice_18 : decode prog_2_method_4_code 18 = .ok (.aaload, 1) := by decide +kernel
theorem zd_Ballot_choice_19 : decode prog_2_method_4_code 19 = .ok (.iload 4, 2) := by decide +kernel
theorem zd_Ballot_choice_21 : decode prog_2_method_4_code 21 = .ok (.iaload, 1) := by decide +kernel
theorem zd_Ballot_choice_22 : decode prog_2_method_4_code 22 = .ok (.iload_n 3, 1) := by decide +kernel
theorem zd_Ballot_choice_23 : decode prog_2_method_4_code 23 = .ok (.if_icmp .le 16, 3) := by decide +kernel
theorem zd_Ballot_choice_26 : decode prog_2_method_4_code 26 = .ok (.aload_n 0, 1) := by decide +kernel
theorem zd_Ballot_choice_27 : decode prog_2_method_4_code 27 = .ok (.getfield 11, 3) := by decide +kernel
theorem zd_Ballot_choice_30 : decode prog_2_method_4_code 30 = .ok (.iload_n 1, 1) := by decide +kernel
theorem zd_Ballot_choice_31 : decode prog_2_method_4_code 31 = .ok (.aaload, 1) := by decide +kernel
theorem zd_Ballot_choice_32 : decode prog_2_method_4_code 32 = .ok (.iload 4, 2) := by decide +kernel
theorem zd_Ballot_choice_34 : decode prog_2_method_4_code 34 = .ok (.iaload, 1) := by decide +kernel
theorem zd_Ballot_choice_35 : decode prog_2_method_4_code 35 = .ok (.istore_n 3, 1) := by decide +kernel
theorem zd_Ballot_choice_36 : decode prog_2_method_4_code 36 = .ok (.iload 4, 2) := by decide +kernel
theorem zd_Ballot_choice_38 : decode prog_2_method_4_code 38 = .ok (.istore_n 2, 1) := by decide +kernel
theorem zd_Ballot_choice_39 : decode prog_2_method_4_code 39 = .ok (.iinc 4 1, 3) := by decide +kernel
theorem zd_Ballot_choice_42 : decode prog_2_method_4_code 42 = .ok (.goto (-35), 3) := by decide +kernel
theorem zd_Ballot_choice_45 : decode prog_2_method_4_code 45 = .ok (.iload_n 2, 1) := by decide +kernel
theorem zd_Ballot_choice_46 : decode prog_2_method_4_code 46 = .ok (.ireturn, 1) := by decide +kernel
