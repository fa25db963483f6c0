section
-- ===== PART A: goes FIRST, ahead of the names: the tables' words, and 'selects' of the private methods out of them =====
/-- a private method of a class that the tables say can be made, by its rows of tables_1 -/
def lw_okq (q : MethodName × Nat) : Prop := (q.1.cls ≠ "java/lang/invoke/MethodHandle" ∧ q.1.cls ≠ "java/lang/invoke/VarHandle") ∧ Cond.instantiable q.1.cls q.2 ∈ tables_1 ∧ Cond.privateMethod q.1 ∈ tables_1 ∧ Cond.instanceMethod q.1 ∈ tables_1
theorem lw_p0 : lw_okq (⟨"SurrogateTree", "startAnew", "()V"⟩, 13) := ⟨⟨by decide +kernel, by decide +kernel⟩, List.mem_of_getElem? (i := 16) (by decide +kernel), List.mem_of_getElem? (i := 266) (by decide +kernel), List.mem_of_getElem? (i := 267) (by decide +kernel)⟩
theorem lw_p1 : lw_okq (⟨"SurrogateTree", "openNode", "(II)V"⟩, 13) := ⟨⟨by decide +kernel, by decide +kernel⟩, List.mem_of_getElem? (i := 16) (by decide +kernel), List.mem_of_getElem? (i := 275) (by decide +kernel), List.mem_of_getElem? (i := 276) (by decide +kernel)⟩
theorem lw_p2 : lw_okq (⟨"SurrogateTree$Table", "isFair", "(I)Z"⟩, 4) := ⟨⟨by decide +kernel, by decide +kernel⟩, List.mem_of_getElem? (i := 24) (by decide +kernel), List.mem_of_getElem? (i := 366) (by decide +kernel), List.mem_of_getElem? (i := 367) (by decide +kernel)⟩
theorem lw_p3 : lw_okq (⟨"SurrogateTree", "makeTurn", "(I)V"⟩, 13) := ⟨⟨by decide +kernel, by decide +kernel⟩, List.mem_of_getElem? (i := 16) (by decide +kernel), List.mem_of_getElem? (i := 398) (by decide +kernel), List.mem_of_getElem? (i := 399) (by decide +kernel)⟩
theorem lw_p4 : lw_okq (⟨"SurrogateTree$Limits", "insert", "(I)V"⟩, 2) := ⟨⟨by decide +kernel, by decide +kernel⟩, List.mem_of_getElem? (i := 185) (by decide +kernel), List.mem_of_getElem? (i := 423) (by decide +kernel), List.mem_of_getElem? (i := 424) (by decide +kernel)⟩
theorem lw_p5 : lw_okq (⟨"SurrogateTree$SplitSearch", "weighSides", "(LSurrogateTree$Table;II)V"⟩, 6) := ⟨⟨by decide +kernel, by decide +kernel⟩, List.mem_of_getElem? (i := 179) (by decide +kernel), List.mem_of_getElem? (i := 446) (by decide +kernel), List.mem_of_getElem? (i := 447) (by decide +kernel)⟩
theorem lw_p6 : lw_okq (⟨"SurrogateTree$SplitSearch", "measure", "(I)V"⟩, 6) := ⟨⟨by decide +kernel, by decide +kernel⟩, List.mem_of_getElem? (i := 179) (by decide +kernel), List.mem_of_getElem? (i := 452) (by decide +kernel), List.mem_of_getElem? (i := 453) (by decide +kernel)⟩
theorem lw_p7 : lw_okq (⟨"SurrogateTree$SplitSearch", "measureSquares", "()V"⟩, 6) := ⟨⟨by decide +kernel, by decide +kernel⟩, List.mem_of_getElem? (i := 179) (by decide +kernel), List.mem_of_getElem? (i := 456) (by decide +kernel), List.mem_of_getElem? (i := 457) (by decide +kernel)⟩
theorem lw_p8 : lw_okq (⟨"SurrogateTree$SplitSearch", "measureMajorities", "()V"⟩, 6) := ⟨⟨by decide +kernel, by decide +kernel⟩, List.mem_of_getElem? (i := 179) (by decide +kernel), List.mem_of_getElem? (i := 460) (by decide +kernel), List.mem_of_getElem? (i := 461) (by decide +kernel)⟩
theorem lw_p9 : lw_okq (⟨"SurrogateTree$SplitSearch", "measureDistance", "()V"⟩, 6) := ⟨⟨by decide +kernel, by decide +kernel⟩, List.mem_of_getElem? (i := 179) (by decide +kernel), List.mem_of_getElem? (i := 465) (by decide +kernel), List.mem_of_getElem? (i := 466) (by decide +kernel)⟩
theorem lw_p10 : lw_okq (⟨"SurrogateTree$SplitSearch", "offer", "(LSurrogateTree$Node;II)V"⟩, 6) := ⟨⟨by decide +kernel, by decide +kernel⟩, List.mem_of_getElem? (i := 179) (by decide +kernel), List.mem_of_getElem? (i := 472) (by decide +kernel), List.mem_of_getElem? (i := 473) (by decide +kernel)⟩
theorem lw_p11 : lw_okq (⟨"SurrogateTree$StandInSearch", "findAt", "(LSurrogateTree$Table;LSurrogateTree$Node;I)Z"⟩, 2) := ⟨⟨by decide +kernel, by decide +kernel⟩, List.mem_of_getElem? (i := 219) (by decide +kernel), List.mem_of_getElem? (i := 488) (by decide +kernel), List.mem_of_getElem? (i := 489) (by decide +kernel)⟩
theorem lw_p12 : lw_okq (⟨"SurrogateTree$StandInSearch", "offer", "(IZI)V"⟩, 2) := ⟨⟨by decide +kernel, by decide +kernel⟩, List.mem_of_getElem? (i := 219) (by decide +kernel), List.mem_of_getElem? (i := 499) (by decide +kernel), List.mem_of_getElem? (i := 500) (by decide +kernel)⟩
theorem lw_p13 : lw_okq (⟨"SurrogateTree", "endOf", "([I)I"⟩, 13) := ⟨⟨by decide +kernel, by decide +kernel⟩, List.mem_of_getElem? (i := 16) (by decide +kernel), List.mem_of_getElem? (i := 570) (by decide +kernel), List.mem_of_getElem? (i := 571) (by decide +kernel)⟩
theorem lw_p14 : lw_okq (⟨"SurrogateTree$Cutter", "findWeakest", "([LSurrogateTree$Node;)Z"⟩, 6) := ⟨⟨by decide +kernel, by decide +kernel⟩, List.mem_of_getElem? (i := 236) (by decide +kernel), List.mem_of_getElem? (i := 604) (by decide +kernel), List.mem_of_getElem? (i := 605) (by decide +kernel)⟩
theorem lw_p15 : lw_okq (⟨"SurrogateTreeModel", "anew", "()V"⟩, 34) := ⟨⟨by decide +kernel, by decide +kernel⟩, List.mem_of_getElem? (i := 632) (by decide +kernel), List.mem_of_getElem? (i := 638) (by decide +kernel), List.mem_of_getElem? (i := 639) (by decide +kernel)⟩
def lw_privs_1 : List (MethodName × Nat) := [(⟨"SurrogateTree", "startAnew", "()V"⟩, 13), (⟨"SurrogateTree", "openNode", "(II)V"⟩, 13), (⟨"SurrogateTree$Table", "isFair", "(I)Z"⟩, 4), (⟨"SurrogateTree", "makeTurn", "(I)V"⟩, 13), (⟨"SurrogateTree$Limits", "insert", "(I)V"⟩, 2), (⟨"SurrogateTree$SplitSearch", "weighSides", "(LSurrogateTree$Table;II)V"⟩, 6), (⟨"SurrogateTree$SplitSearch", "measure", "(I)V"⟩, 6), (⟨"SurrogateTree$SplitSearch", "measureSquares", "()V"⟩, 6), (⟨"SurrogateTree$SplitSearch", "measureMajorities", "()V"⟩, 6), (⟨"SurrogateTree$SplitSearch", "measureDistance", "()V"⟩, 6), (⟨"SurrogateTree$SplitSearch", "offer", "(LSurrogateTree$Node;II)V"⟩, 6), (⟨"SurrogateTree$StandInSearch", "findAt", "(LSurrogateTree$Table;LSurrogateTree$Node;I)Z"⟩, 2), (⟨"SurrogateTree$StandInSearch", "offer", "(IZI)V"⟩, 2), (⟨"SurrogateTree", "endOf", "([I)I"⟩, 13), (⟨"SurrogateTree$Cutter", "findWeakest", "([LSurrogateTree$Node;)Z"⟩, 6), (⟨"SurrogateTreeModel", "anew", "()V"⟩, 34)]
theorem lw_r1 : ∀ q ∈ lw_privs_1, lw_okq q := List.forall_mem_cons.mpr ⟨lw_p0, List.forall_mem_cons.mpr ⟨lw_p1, List.forall_mem_cons.mpr ⟨lw_p2, List.forall_mem_cons.mpr ⟨lw_p3, List.forall_mem_cons.mpr ⟨lw_p4, List.forall_mem_cons.mpr ⟨lw_p5, List.forall_mem_cons.mpr ⟨lw_p6, List.forall_mem_cons.mpr ⟨lw_p7, List.forall_mem_cons.mpr ⟨lw_p8, List.forall_mem_cons.mpr ⟨lw_p9, List.forall_mem_cons.mpr ⟨lw_p10, List.forall_mem_cons.mpr ⟨lw_p11, List.forall_mem_cons.mpr ⟨lw_p12, List.forall_mem_cons.mpr ⟨lw_p13, List.forall_mem_cons.mpr ⟨lw_p14, List.forall_mem_cons.mpr ⟨lw_p15, fun _ h => absurd h List.not_mem_nil⟩⟩⟩⟩⟩⟩⟩⟩⟩⟩⟩⟩⟩⟩⟩⟩
theorem lw_p16 : lw_okq (⟨"SurrogateTreeModel", "waiting", "()I"⟩, 34) := ⟨⟨by decide +kernel, by decide +kernel⟩, List.mem_of_getElem? (i := 632) (by decide +kernel), List.mem_of_getElem? (i := 774) (by decide +kernel), List.mem_of_getElem? (i := 775) (by decide +kernel)⟩
theorem lw_p17 : lw_okq (⟨"SurrogateTreeModel", "turn", "(I)V"⟩, 34) := ⟨⟨by decide +kernel, by decide +kernel⟩, List.mem_of_getElem? (i := 632) (by decide +kernel), List.mem_of_getElem? (i := 778) (by decide +kernel), List.mem_of_getElem? (i := 779) (by decide +kernel)⟩
theorem lw_p18 : lw_okq (⟨"SurrogateTreeModel", "seek", "(I)Z"⟩, 34) := ⟨⟨by decide +kernel, by decide +kernel⟩, List.mem_of_getElem? (i := 632) (by decide +kernel), List.mem_of_getElem? (i := 785) (by decide +kernel), List.mem_of_getElem? (i := 786) (by decide +kernel)⟩
theorem lw_p19 : lw_okq (⟨"SurrogateTreeModel", "present", "(II)I"⟩, 34) := ⟨⟨by decide +kernel, by decide +kernel⟩, List.mem_of_getElem? (i := 632) (by decide +kernel), List.mem_of_getElem? (i := 789) (by decide +kernel), List.mem_of_getElem? (i := 790) (by decide +kernel)⟩
theorem lw_p20 : lw_okq (⟨"SurrogateTreeModel", "next", "(IIII)Z"⟩, 34) := ⟨⟨by decide +kernel, by decide +kernel⟩, List.mem_of_getElem? (i := 632) (by decide +kernel), List.mem_of_getElem? (i := 797) (by decide +kernel), List.mem_of_getElem? (i := 798) (by decide +kernel)⟩
theorem lw_p21 : lw_okq (⟨"SurrogateTreeModel", "between", "(III)I"⟩, 34) := ⟨⟨by decide +kernel, by decide +kernel⟩, List.mem_of_getElem? (i := 632) (by decide +kernel), List.mem_of_getElem? (i := 801) (by decide +kernel), List.mem_of_getElem? (i := 802) (by decide +kernel)⟩
theorem lw_p22 : lw_okq (⟨"SurrogateTreeModel", "upTo", "(III)I"⟩, 34) := ⟨⟨by decide +kernel, by decide +kernel⟩, List.mem_of_getElem? (i := 632) (by decide +kernel), List.mem_of_getElem? (i := 805) (by decide +kernel), List.mem_of_getElem? (i := 806) (by decide +kernel)⟩
theorem lw_p23 : lw_okq (⟨"SurrogateTreeModel", "weigh", "(II)I"⟩, 34) := ⟨⟨by decide +kernel, by decide +kernel⟩, List.mem_of_getElem? (i := 632) (by decide +kernel), List.mem_of_getElem? (i := 809) (by decide +kernel), List.mem_of_getElem? (i := 810) (by decide +kernel)⟩
theorem lw_p24 : lw_okq (⟨"SurrogateTreeModel", "gainOf", "(II)V"⟩, 34) := ⟨⟨by decide +kernel, by decide +kernel⟩, List.mem_of_getElem? (i := 632) (by decide +kernel), List.mem_of_getElem? (i := 813) (by decide +kernel), List.mem_of_getElem? (i := 814) (by decide +kernel)⟩
theorem lw_p25 : lw_okq (⟨"SurrogateTreeModel", "greatest", "(I)I"⟩, 34) := ⟨⟨by decide +kernel, by decide +kernel⟩, List.mem_of_getElem? (i := 632) (by decide +kernel), List.mem_of_getElem? (i := 817) (by decide +kernel), List.mem_of_getElem? (i := 818) (by decide +kernel)⟩
theorem lw_p26 : lw_okq (⟨"SurrogateTreeModel", "classIn", "(I)I"⟩, 34) := ⟨⟨by decide +kernel, by decide +kernel⟩, List.mem_of_getElem? (i := 632) (by decide +kernel), List.mem_of_getElem? (i := 821) (by decide +kernel), List.mem_of_getElem? (i := 822) (by decide +kernel)⟩
theorem lw_p27 : lw_okq (⟨"SurrogateTreeModel", "goes", "(IIII)I"⟩, 34) := ⟨⟨by decide +kernel, by decide +kernel⟩, List.mem_of_getElem? (i := 632) (by decide +kernel), List.mem_of_getElem? (i := 825) (by decide +kernel), List.mem_of_getElem? (i := 826) (by decide +kernel)⟩
theorem lw_p28 : lw_okq (⟨"SurrogateTreeModel", "standIns", "(I)V"⟩, 34) := ⟨⟨by decide +kernel, by decide +kernel⟩, List.mem_of_getElem? (i := 632) (by decide +kernel), List.mem_of_getElem? (i := 829) (by decide +kernel), List.mem_of_getElem? (i := 830) (by decide +kernel)⟩
theorem lw_p29 : lw_okq (⟨"SurrogateTreeModel", "standIn", "(II)Z"⟩, 34) := ⟨⟨by decide +kernel, by decide +kernel⟩, List.mem_of_getElem? (i := 632) (by decide +kernel), List.mem_of_getElem? (i := 833) (by decide +kernel), List.mem_of_getElem? (i := 834) (by decide +kernel)⟩
theorem lw_p30 : lw_okq (⟨"SurrogateTreeModel", "consider", "(III)V"⟩, 34) := ⟨⟨by decide +kernel, by decide +kernel⟩, List.mem_of_getElem? (i := 632) (by decide +kernel), List.mem_of_getElem? (i := 837) (by decide +kernel), List.mem_of_getElem? (i := 838) (by decide +kernel)⟩
theorem lw_p31 : lw_okq (⟨"SurrogateTreeModel", "findErrors", "()V"⟩, 34) := ⟨⟨by decide +kernel, by decide +kernel⟩, List.mem_of_getElem? (i := 632) (by decide +kernel), List.mem_of_getElem? (i := 845) (by decide +kernel), List.mem_of_getElem? (i := 846) (by decide +kernel)⟩
def lw_privs_2 : List (MethodName × Nat) := [(⟨"SurrogateTreeModel", "waiting", "()I"⟩, 34), (⟨"SurrogateTreeModel", "turn", "(I)V"⟩, 34), (⟨"SurrogateTreeModel", "seek", "(I)Z"⟩, 34), (⟨"SurrogateTreeModel", "present", "(II)I"⟩, 34), (⟨"SurrogateTreeModel", "next", "(IIII)Z"⟩, 34), (⟨"SurrogateTreeModel", "between", "(III)I"⟩, 34), (⟨"SurrogateTreeModel", "upTo", "(III)I"⟩, 34), (⟨"SurrogateTreeModel", "weigh", "(II)I"⟩, 34), (⟨"SurrogateTreeModel", "gainOf", "(II)V"⟩, 34), (⟨"SurrogateTreeModel", "greatest", "(I)I"⟩, 34), (⟨"SurrogateTreeModel", "classIn", "(I)I"⟩, 34), (⟨"SurrogateTreeModel", "goes", "(IIII)I"⟩, 34), (⟨"SurrogateTreeModel", "standIns", "(I)V"⟩, 34), (⟨"SurrogateTreeModel", "standIn", "(II)Z"⟩, 34), (⟨"SurrogateTreeModel", "consider", "(III)V"⟩, 34), (⟨"SurrogateTreeModel", "findErrors", "()V"⟩, 34)]
theorem lw_r2 : ∀ q ∈ lw_privs_2, lw_okq q := List.forall_mem_cons.mpr ⟨lw_p16, List.forall_mem_cons.mpr ⟨lw_p17, List.forall_mem_cons.mpr ⟨lw_p18, List.forall_mem_cons.mpr ⟨lw_p19, List.forall_mem_cons.mpr ⟨lw_p20, List.forall_mem_cons.mpr ⟨lw_p21, List.forall_mem_cons.mpr ⟨lw_p22, List.forall_mem_cons.mpr ⟨lw_p23, List.forall_mem_cons.mpr ⟨lw_p24, List.forall_mem_cons.mpr ⟨lw_p25, List.forall_mem_cons.mpr ⟨lw_p26, List.forall_mem_cons.mpr ⟨lw_p27, List.forall_mem_cons.mpr ⟨lw_p28, List.forall_mem_cons.mpr ⟨lw_p29, List.forall_mem_cons.mpr ⟨lw_p30, List.forall_mem_cons.mpr ⟨lw_p31, fun _ h => absurd h List.not_mem_nil⟩⟩⟩⟩⟩⟩⟩⟩⟩⟩⟩⟩⟩⟩⟩⟩
theorem lw_p32 : lw_okq (⟨"SurrogateTreeModel", "errorIn", "(I)I"⟩, 34) := ⟨⟨by decide +kernel, by decide +kernel⟩, List.mem_of_getElem? (i := 632) (by decide +kernel), List.mem_of_getElem? (i := 849) (by decide +kernel), List.mem_of_getElem? (i := 850) (by decide +kernel)⟩
theorem lw_p33 : lw_okq (⟨"SurrogateTreeModel", "shape", "(II)I"⟩, 34) := ⟨⟨by decide +kernel, by decide +kernel⟩, List.mem_of_getElem? (i := 632) (by decide +kernel), List.mem_of_getElem? (i := 853) (by decide +kernel), List.mem_of_getElem? (i := 854) (by decide +kernel)⟩
theorem lw_p34 : lw_okq (⟨"SurrogateTreeModel", "breaksAt", "(II)Z"⟩, 34) := ⟨⟨by decide +kernel, by decide +kernel⟩, List.mem_of_getElem? (i := 632) (by decide +kernel), List.mem_of_getElem? (i := 899) (by decide +kernel), List.mem_of_getElem? (i := 900) (by decide +kernel)⟩
theorem lw_p35 : lw_okq (⟨"SurrogateTreeModel", "insert", "(II)V"⟩, 34) := ⟨⟨by decide +kernel, by decide +kernel⟩, List.mem_of_getElem? (i := 632) (by decide +kernel), List.mem_of_getElem? (i := 903) (by decide +kernel), List.mem_of_getElem? (i := 904) (by decide +kernel)⟩
def lw_privs_3 : List (MethodName × Nat) := [(⟨"SurrogateTreeModel", "errorIn", "(I)I"⟩, 34), (⟨"SurrogateTreeModel", "shape", "(II)I"⟩, 34), (⟨"SurrogateTreeModel", "breaksAt", "(II)Z"⟩, 34), (⟨"SurrogateTreeModel", "insert", "(II)V"⟩, 34)]
theorem lw_r3 : ∀ q ∈ lw_privs_3, lw_okq q := List.forall_mem_cons.mpr ⟨lw_p32, List.forall_mem_cons.mpr ⟨lw_p33, List.forall_mem_cons.mpr ⟨lw_p34, List.forall_mem_cons.mpr ⟨lw_p35, fun _ h => absurd h List.not_mem_nil⟩⟩⟩⟩
def lw_privs : List (MethodName × Nat) := lw_privs_1 ++ (lw_privs_2 ++ (lw_privs_3))
def lw_tbl : List Cond := k2_sels lw_privs ++ tables_1
theorem lw_privs_ok : ∀ q ∈ lw_privs, lw_okq q := by
  show ∀ q ∈ lw_privs_1 ++ (lw_privs_2 ++ (lw_privs_3)), lw_okq q
  exact List.forall_mem_append.mpr ⟨lw_r1, List.forall_mem_append.mpr ⟨lw_r2, lw_r3⟩⟩
end
section
/-! names of this claim (written by wip/gen/names.py out of the Statement) -/
def zn_TS : List Cond := lw_tbl.filter goodWord
theorem zn_good : ∀ w ∈ zn_TS, (w.onTables && w.keeps) = true ∨ ∃ ty, w = .arrayClass ty := fun w h => good_of_word (List.mem_filter.mp h).2
theorem zn_in {w : Cond} (i : Nat) (h : tables_1[i]? = some w) (g : goodWord w = true) : w ∈ zn_TS := List.mem_filter.mpr ⟨List.mem_append_right _ (List.mem_of_getElem? h), g⟩
theorem zn_is {y : MethodName} {n : Nat} (i : Nat) (h : lw_privs[i]? = some (y, n)) : Cond.selects y.cls y y ∈ zn_TS := List.mem_filter.mpr ⟨List.mem_append_left _ (List.mem_map.mpr ⟨(y, n), List.mem_of_getElem? h, rfl⟩), rfl⟩
abbrev zn_nc : Nat := 12
def zn_C : Nat → String
  | 0 => "SurrogateTree"
  | 1 => "SurrogateTree$Table"
  | 2 => "SurrogateTree$Ballot"
  | 3 => "SurrogateTree$Node"
  | 4 => "SurrogateTree$Fraction"
  | 5 => "SurrogateTree$StandIn"
  | 6 => "SurrogateTree$Shape"
  | 7 => "SurrogateTree$SplitSearch"
  | 8 => "SurrogateTree$Limits"
  | 9 => "SurrogateTree$StandInSearch"
  | 10 => "SurrogateTree$Cutter"
  | _ => "SurrogateTreeModel"
def zn_n : Nat → Nat
  | 0 => 13
  | 1 => 4
  | 2 => 1
  | 3 => 9
  | 4 => 2
  | 5 => 4
  | 6 => 1
  | 7 => 6
  | 8 => 2
  | 9 => 2
  | 10 => 6
  | _ => 34
def zn_T0 : u_T := fun k => match k with
  | 0 => ("SurrogateTree", "table", "LSurrogateTree$Table;", true)
  | 1 => ("SurrogateTree", "ballot", "LSurrogateTree$Ballot;", true)
  | 2 => ("SurrogateTree", "nodes", "[LSurrogateTree$Node;", true)
  | 3 => ("SurrogateTree", "grown", "LSurrogateTree$Shape;", true)
  | 4 => ("SurrogateTree", "trimmed", "LSurrogateTree$Shape;", true)
  | 5 => ("SurrogateTree", "splitSearch", "LSurrogateTree$SplitSearch;", true)
  | 6 => ("SurrogateTree", "standInSearch", "LSurrogateTree$StandInSearch;", true)
  | 7 => ("SurrogateTree", "cutter", "LSurrogateTree$Cutter;", true)
  | 8 => ("SurrogateTree", "asked", "[I", true)
  | 9 => ("SurrogateTree", "shown", "LSurrogateTree$Shape;", false)
  | 10 => ("SurrogateTree", "criterion", "I", false)
  | 11 => ("SurrogateTree", "depthLimit", "I", false)
  | _ => ("SurrogateTree", "leafSize", "I", false)
def zn_ty0 : Nat → FieldType := fun k => match k with
  | 0 => .object "SurrogateTree$Table"
  | 1 => .object "SurrogateTree$Ballot"
  | 2 => .array (.object "SurrogateTree$Node")
  | 3 => .object "SurrogateTree$Shape"
  | 4 => .object "SurrogateTree$Shape"
  | 5 => .object "SurrogateTree$SplitSearch"
  | 6 => .object "SurrogateTree$StandInSearch"
  | 7 => .object "SurrogateTree$Cutter"
  | 8 => .array .int
  | 9 => .object "SurrogateTree$Shape"
  | 10 => .int
  | 11 => .int
  | _ => .int
def zn_T1 : u_T := fun k => match k with
  | 0 => ("SurrogateTree$Table", "values", "[[I", true)
  | 1 => ("SurrogateTree$Table", "classes", "[I", true)
  | 2 => ("SurrogateTree$Table", "weights", "[I", true)
  | _ => ("SurrogateTree$Table", "size", "I", false)
def zn_ty1 : Nat → FieldType := fun k => match k with
  | 0 => .array (.array .int)
  | 1 => .array .int
  | 2 => .array .int
  | _ => .int
def zn_T2 : u_T := fun k => match k with
  | _ => ("SurrogateTree$Ballot", "counts", "[[I", true)
def zn_ty2 : Nat → FieldType := fun k => match k with
  | _ => .array (.array .int)
def zn_T3 : u_T := fun k => match k with
  | 0 => ("SurrogateTree$Node", "rows", "I", false)
  | 1 => ("SurrogateTree$Node", "majority", "I", false)
  | 2 => ("SurrogateTree$Node", "strays", "I", false)
  | 3 => ("SurrogateTree$Node", "feature", "I", false)
  | 4 => ("SurrogateTree$Node", "limit", "I", false)
  | 5 => ("SurrogateTree$Node", "worth", "LSurrogateTree$Fraction;", true)
  | 6 => ("SurrogateTree$Node", "leansLeft", "Z", false)
  | 7 => ("SurrogateTree$Node", "standIns", "[LSurrogateTree$StandIn;", true)
  | _ => ("SurrogateTree$Node", "standInCount", "I", false)
def zn_ty3 : Nat → FieldType := fun k => match k with
  | 0 => .int
  | 1 => .int
  | 2 => .int
  | 3 => .int
  | 4 => .int
  | 5 => .object "SurrogateTree$Fraction"
  | 6 => .boolean
  | 7 => .array (.object "SurrogateTree$StandIn")
  | _ => .int
def zn_T4 : u_T := fun k => match k with
  | 0 => ("SurrogateTree$Fraction", "numerator", "J", false)
  | _ => ("SurrogateTree$Fraction", "denominator", "J", false)
def zn_ty4 : Nat → FieldType := fun k => match k with
  | 0 => .long
  | _ => .long
def zn_T5 : u_T := fun k => match k with
  | 0 => ("SurrogateTree$StandIn", "feature", "I", false)
  | 1 => ("SurrogateTree$StandIn", "limit", "I", false)
  | 2 => ("SurrogateTree$StandIn", "turned", "Z", false)
  | _ => ("SurrogateTree$StandIn", "agreement", "I", false)
def zn_ty5 : Nat → FieldType := fun k => match k with
  | 0 => .int
  | 1 => .int
  | 2 => .boolean
  | _ => .int
def zn_T6 : u_T := fun k => match k with
  | _ => ("SurrogateTree$Shape", "kinds", "[I", true)
def zn_ty6 : Nat → FieldType := fun k => match k with
  | _ => .array .int
def zn_T7 : u_T := fun k => match k with
  | 0 => ("SurrogateTree$SplitSearch", "limits", "LSurrogateTree$Limits;", true)
  | 1 => ("SurrogateTree$SplitSearch", "left", "[I", true)
  | 2 => ("SurrogateTree$SplitSearch", "right", "[I", true)
  | 3 => ("SurrogateTree$SplitSearch", "leftWeight", "I", false)
  | 4 => ("SurrogateTree$SplitSearch", "rightWeight", "I", false)
  | _ => ("SurrogateTree$SplitSearch", "candidate", "LSurrogateTree$Fraction;", true)
def zn_ty7 : Nat → FieldType := fun k => match k with
  | 0 => .object "SurrogateTree$Limits"
  | 1 => .array .int
  | 2 => .array .int
  | 3 => .int
  | 4 => .int
  | _ => .object "SurrogateTree$Fraction"
def zn_T8 : u_T := fun k => match k with
  | 0 => ("SurrogateTree$Limits", "sorted", "[I", true)
  | _ => ("SurrogateTree$Limits", "distinct", "I", false)
def zn_ty8 : Nat → FieldType := fun k => match k with
  | 0 => .array .int
  | _ => .int
def zn_T9 : u_T := fun k => match k with
  | 0 => ("SurrogateTree$StandInSearch", "limits", "LSurrogateTree$Limits;", true)
  | _ => ("SurrogateTree$StandInSearch", "best", "LSurrogateTree$StandIn;", true)
def zn_ty9 : Nat → FieldType := fun k => match k with
  | 0 => .object "SurrogateTree$Limits"
  | _ => .object "SurrogateTree$StandIn"
def zn_T10 : u_T := fun k => match k with
  | 0 => ("SurrogateTree$Cutter", "found", "LSurrogateTree$Fraction;", true)
  | 1 => ("SurrogateTree$Cutter", "rest", "LSurrogateTree$Shape;", true)
  | 2 => ("SurrogateTree$Cutter", "candidate", "LSurrogateTree$Fraction;", true)
  | 3 => ("SurrogateTree$Cutter", "costs", "[I", true)
  | 4 => ("SurrogateTree$Cutter", "leavesBelow", "[I", true)
  | _ => ("SurrogateTree$Cutter", "straysBelow", "[I", true)
def zn_ty10 : Nat → FieldType := fun k => match k with
  | 0 => .object "SurrogateTree$Fraction"
  | 1 => .object "SurrogateTree$Shape"
  | 2 => .object "SurrogateTree$Fraction"
  | 3 => .array .int
  | 4 => .array .int
  | _ => .array .int
def zn_T11 : u_T := fun k => match k with
  | 0 => ("SurrogateTreeModel", "n", "I", false)
  | 1 => ("SurrogateTreeModel", "value", "[I", false)
  | 2 => ("SurrogateTreeModel", "own", "[I", false)
  | 3 => ("SurrogateTreeModel", "weight", "[I", false)
  | 4 => ("SurrogateTreeModel", "vote", "[I", false)
  | 5 => ("SurrogateTreeModel", "criterion", "I", false)
  | 6 => ("SurrogateTreeModel", "limit", "I", false)
  | 7 => ("SurrogateTreeModel", "leaf", "I", false)
  | 8 => ("SurrogateTreeModel", "state", "[I", false)
  | 9 => ("SurrogateTreeModel", "rows", "[I", false)
  | 10 => ("SurrogateTreeModel", "feature", "[I", false)
  | 11 => ("SurrogateTreeModel", "border", "[I", false)
  | 12 => ("SurrogateTreeModel", "isCut", "Z", false)
  | 13 => ("SurrogateTreeModel", "cutTop", "I", false)
  | 14 => ("SurrogateTreeModel", "cutBottom", "I", false)
  | 15 => ("SurrogateTreeModel", "top", "I", false)
  | 16 => ("SurrogateTreeModel", "bottom", "I", false)
  | 17 => ("SurrogateTreeModel", "bestFeature", "I", false)
  | 18 => ("SurrogateTreeModel", "bestBorder", "I", false)
  | 19 => ("SurrogateTreeModel", "count", "I", false)
  | 20 => ("SurrogateTreeModel", "standFeature", "[I", false)
  | 21 => ("SurrogateTreeModel", "standBorder", "[I", false)
  | 22 => ("SurrogateTreeModel", "standTurned", "[I", false)
  | 23 => ("SurrogateTreeModel", "standAgreed", "[I", false)
  | 24 => ("SurrogateTreeModel", "oneBorder", "I", false)
  | 25 => ("SurrogateTreeModel", "oneTurned", "I", false)
  | 26 => ("SurrogateTreeModel", "oneAgreed", "I", false)
  | 27 => ("SurrogateTreeModel", "errors", "[I", false)
  | 28 => ("SurrogateTreeModel", "cost", "[J", false)
  | 29 => ("SurrogateTreeModel", "leaves", "[I", false)
  | 30 => ("SurrogateTreeModel", "stays", "[Z", false)
  | 31 => ("SurrogateTreeModel", "breaks", "I", false)
  | 32 => ("SurrogateTreeModel", "breakTop", "[I", false)
  | _ => ("SurrogateTreeModel", "breakBottom", "[I", false)
def zn_ty11 : Nat → FieldType := fun k => match k with
  | 0 => .int
  | 1 => .array .int
  | 2 => .array .int
  | 3 => .array .int
  | 4 => .array .int
  | 5 => .int
  | 6 => .int
  | 7 => .int
  | 8 => .array .int
  | 9 => .array .int
  | 10 => .array .int
  | 11 => .array .int
  | 12 => .boolean
  | 13 => .int
  | 14 => .int
  | 15 => .int
  | 16 => .int
  | 17 => .int
  | 18 => .int
  | 19 => .int
  | 20 => .array .int
  | 21 => .array .int
  | 22 => .array .int
  | 23 => .array .int
  | 24 => .int
  | 25 => .int
  | 26 => .int
  | 27 => .array .int
  | 28 => .array .long
  | 29 => .array .int
  | 30 => .array .boolean
  | 31 => .int
  | 32 => .array .int
  | _ => .array .int
def zn_T : Nat → u_T
  | 0 => zn_T0
  | 1 => zn_T1
  | 2 => zn_T2
  | 3 => zn_T3
  | 4 => zn_T4
  | 5 => zn_T5
  | 6 => zn_T6
  | 7 => zn_T7
  | 8 => zn_T8
  | 9 => zn_T9
  | 10 => zn_T10
  | _ => zn_T11
def zn_ty : Nat → Nat → FieldType
  | 0 => zn_ty0
  | 1 => zn_ty1
  | 2 => zn_ty2
  | 3 => zn_ty3
  | 4 => zn_ty4
  | 5 => zn_ty5
  | 6 => zn_ty6
  | 7 => zn_ty7
  | 8 => zn_ty8
  | 9 => zn_ty9
  | 10 => zn_ty10
  | _ => zn_ty11
def zn_cl : List vw_C := (List.range zn_nc).map (fun c => (zn_C c, zn_T c, zn_n c))
theorem zn_cl_at (ci : Nat) (h : ci < zn_nc) : zn_cl[ci]? = some (zn_C ci, zn_T ci, zn_n ci) := by simp [zn_cl, List.getElem?_map, List.getElem?_range h]
def zn_ra : List FieldType := [.object "SurrogateTree$Node", .object "SurrogateTree$StandIn", .array .int]
theorem zw_0 : Cond.initialized "SurrogateTreeLaw" ∈ zn_TS := zn_in 0 (by decide +kernel) rfl
theorem zw_1 : Cond.initialized "SurrogateTree" ∈ zn_TS := zn_in 1 (by decide +kernel) rfl
theorem zw_2 : Cond.initialized "SurrogateTree$Table" ∈ zn_TS := zn_in 2 (by decide +kernel) rfl
theorem zw_3 : Cond.initialized "SurrogateTree$Ballot" ∈ zn_TS := zn_in 3 (by decide +kernel) rfl
theorem zw_4 : Cond.initialized "SurrogateTree$Node" ∈ zn_TS := zn_in 4 (by decide +kernel) rfl
theorem zw_5 : Cond.initialized "SurrogateTree$Fraction" ∈ zn_TS := zn_in 5 (by decide +kernel) rfl
theorem zw_6 : Cond.initialized "SurrogateTree$StandIn" ∈ zn_TS := zn_in 6 (by decide +kernel) rfl
theorem zw_7 : Cond.initialized "SurrogateTree$Shape" ∈ zn_TS := zn_in 7 (by decide +kernel) rfl
theorem zw_8 : Cond.initialized "SurrogateTree$SplitSearch" ∈ zn_TS := zn_in 8 (by decide +kernel) rfl
theorem zw_9 : Cond.initialized "SurrogateTree$Limits" ∈ zn_TS := zn_in 9 (by decide +kernel) rfl
theorem zw_10 : Cond.initialized "SurrogateTree$StandInSearch" ∈ zn_TS := zn_in 10 (by decide +kernel) rfl
theorem zw_11 : Cond.initialized "SurrogateTree$Cutter" ∈ zn_TS := zn_in 11 (by decide +kernel) rfl
theorem zw_12 : Cond.initialized "SurrogateTreeModel" ∈ zn_TS := zn_in 12 (by decide +kernel) rfl
theorem zw_13 : Cond.initialized "java/lang/Integer" ∈ zn_TS := zn_in 13 (by decide +kernel) rfl
theorem zw_14 : Cond.initialized "java/lang/Math" ∈ zn_TS := zn_in 14 (by decide +kernel) rfl
theorem zw_15 : Cond.classLink "SurrogateTreeLaw" 7 "SurrogateTree" ∈ zn_TS := zn_in 15 (by decide +kernel) rfl
theorem zw_16 : Cond.instantiable "SurrogateTree" 13 ∈ zn_TS := zn_in 16 (by decide +kernel) rfl
theorem zw_17 : Cond.methodLink "SurrogateTreeLaw" 9 ⟨"SurrogateTree", "<init>", "()V"⟩ ∈ zn_TS := zn_in 17 (by decide +kernel) rfl
theorem zw_18 : Cond.instanceMethod ⟨"SurrogateTree", "<init>", "()V"⟩ ∈ zn_TS := zn_in 18 (by decide +kernel) rfl
theorem zw_19 : Cond.code ⟨"SurrogateTree", "<init>", "()V"⟩ prog_1_method_1_code 2 none ∈ zn_TS := zn_in 19 (by decide +kernel) rfl
theorem zw_20 : Cond.methodLink "SurrogateTree" 1 ⟨"java/lang/Object", "<init>", "()V"⟩ ∈ zn_TS := zn_in 20 (by decide +kernel) rfl
theorem zw_21 : Cond.instanceMethod ⟨"java/lang/Object", "<init>", "()V"⟩ ∈ zn_TS := zn_in 21 (by decide +kernel) rfl
theorem zw_22 : Cond.code ⟨"java/lang/Object", "<init>", "()V"⟩ object_method_1_code 1 none ∈ zn_TS := zn_in 22 (by decide +kernel) rfl
theorem zw_23 : Cond.classLink "SurrogateTree" 7 "SurrogateTree$Table" ∈ zn_TS := zn_in 23 (by decide +kernel) rfl
theorem zw_24 : Cond.instantiable "SurrogateTree$Table" 4 ∈ zn_TS := zn_in 24 (by decide +kernel) rfl
theorem zw_25 : Cond.methodLink "SurrogateTree" 9 ⟨"SurrogateTree$Table", "<init>", "()V"⟩ ∈ zn_TS := zn_in 25 (by decide +kernel) rfl
theorem zw_26 : Cond.instanceMethod ⟨"SurrogateTree$Table", "<init>", "()V"⟩ ∈ zn_TS := zn_in 26 (by decide +kernel) rfl
theorem zw_27 : Cond.code ⟨"SurrogateTree$Table", "<init>", "()V"⟩ prog_11_method_1_code 1 none ∈ zn_TS := zn_in 27 (by decide +kernel) rfl
theorem zw_28 : Cond.methodLink "SurrogateTree$Table" 3 ⟨"java/lang/Object", "<init>", "()V"⟩ ∈ zn_TS := zn_in 28 (by decide +kernel) rfl
theorem zw_29 : Cond.classLink "SurrogateTree$Table" 9 "[[I" ∈ zn_TS := zn_in 29 (by decide +kernel) rfl
theorem zw_31 : Cond.fieldLink "SurrogateTree$Table" 11 "SurrogateTree$Table" "values" "[[I" ∈ zn_TS := zn_in 31 (by decide +kernel) rfl
theorem zw_32 : Cond.fieldLink "SurrogateTree$Limits" 28 "SurrogateTree$Table" "values" "[[I" ∈ zn_TS := zn_in 32 (by decide +kernel) rfl
theorem zw_33 : Cond.fieldLink "SurrogateTree$Node" 78 "SurrogateTree$Table" "values" "[[I" ∈ zn_TS := zn_in 33 (by decide +kernel) rfl
theorem zw_34 : Cond.fieldLink "SurrogateTree" 194 "SurrogateTree$Table" "values" "[[I" ∈ zn_TS := zn_in 34 (by decide +kernel) rfl
theorem zw_35 : Cond.fieldLink "SurrogateTree$Table" 16 "SurrogateTree$Table" "classes" "[I" ∈ zn_TS := zn_in 35 (by decide +kernel) rfl
theorem zw_36 : Cond.fieldLink "SurrogateTree" 208 "SurrogateTree$Table" "classes" "[I" ∈ zn_TS := zn_in 36 (by decide +kernel) rfl
theorem zw_37 : Cond.fieldLink "SurrogateTree$Table" 20 "SurrogateTree$Table" "weights" "[I" ∈ zn_TS := zn_in 37 (by decide +kernel) rfl
theorem zw_38 : Cond.fieldLink "SurrogateTree" 113 "SurrogateTree$Table" "weights" "[I" ∈ zn_TS := zn_in 38 (by decide +kernel) rfl
theorem zw_39 : Cond.fieldLink "SurrogateTree$Table" 23 "SurrogateTree$Table" "size" "I" ∈ zn_TS := zn_in 39 (by decide +kernel) rfl
theorem zw_40 : Cond.fieldLink "SurrogateTree$Limits" 19 "SurrogateTree$Table" "size" "I" ∈ zn_TS := zn_in 40 (by decide +kernel) rfl
theorem zw_41 : Cond.fieldLink "SurrogateTree" 82 "SurrogateTree$Table" "size" "I" ∈ zn_TS := zn_in 41 (by decide +kernel) rfl
theorem zw_42 : Cond.fieldLink "SurrogateTree$Node" 71 "SurrogateTree$Table" "size" "I" ∈ zn_TS := zn_in 42 (by decide +kernel) rfl
theorem zw_43 : Cond.laysFinal "SurrogateTree$Table" "SurrogateTree$Table" "values" "[[I" ∈ zn_TS := zn_in 43 (by decide +kernel) rfl
theorem zw_45 : Cond.laysFinal "SurrogateTree$Table" "SurrogateTree$Table" "classes" "[I" ∈ zn_TS := zn_in 45 (by decide +kernel) rfl
theorem zw_47 : Cond.laysFinal "SurrogateTree$Table" "SurrogateTree$Table" "weights" "[I" ∈ zn_TS := zn_in 47 (by decide +kernel) rfl
theorem zw_49 : Cond.lays "SurrogateTree$Table" "SurrogateTree$Table" "size" "I" ∈ zn_TS := zn_in 49 (by decide +kernel) rfl
theorem zw_52 : Cond.arrayClass .int ∈ zn_TS := zn_in 52 (by decide +kernel) rfl
theorem zw_53 : Cond.classLink "SurrogateTree" 16 "SurrogateTree$Ballot" ∈ zn_TS := zn_in 53 (by decide +kernel) rfl
theorem zw_54 : Cond.instantiable "SurrogateTree$Ballot" 1 ∈ zn_TS := zn_in 54 (by decide +kernel) rfl
theorem zw_55 : Cond.methodLink "SurrogateTree" 18 ⟨"SurrogateTree$Ballot", "<init>", "()V"⟩ ∈ zn_TS := zn_in 55 (by decide +kernel) rfl
theorem zw_56 : Cond.instanceMethod ⟨"SurrogateTree$Ballot", "<init>", "()V"⟩ ∈ zn_TS := zn_in 56 (by decide +kernel) rfl
theorem zw_57 : Cond.code ⟨"SurrogateTree$Ballot", "<init>", "()V"⟩ prog_2_method_1_code 1 none ∈ zn_TS := zn_in 57 (by decide +kernel) rfl
theorem zw_58 : Cond.methodLink "SurrogateTree$Ballot" 3 ⟨"java/lang/Object", "<init>", "()V"⟩ ∈ zn_TS := zn_in 58 (by decide +kernel) rfl
theorem zw_59 : Cond.classLink "SurrogateTree$Ballot" 9 "[[I" ∈ zn_TS := zn_in 59 (by decide +kernel) rfl
theorem zw_60 : Cond.fieldLink "SurrogateTree$Ballot" 11 "SurrogateTree$Ballot" "counts" "[[I" ∈ zn_TS := zn_in 60 (by decide +kernel) rfl
theorem zw_61 : Cond.fieldLink "SurrogateTree" 202 "SurrogateTree$Ballot" "counts" "[[I" ∈ zn_TS := zn_in 61 (by decide +kernel) rfl
theorem zw_62 : Cond.laysFinal "SurrogateTree$Ballot" "SurrogateTree$Ballot" "counts" "[[I" ∈ zn_TS := zn_in 62 (by decide +kernel) rfl
theorem zw_65 : Cond.classLink "SurrogateTree" 23 "SurrogateTree$Node" ∈ zn_TS := zn_in 65 (by decide +kernel) rfl
theorem zw_67 : Cond.instantiable "SurrogateTree$Node" 9 ∈ zn_TS := zn_in 67 (by decide +kernel) rfl
theorem zw_68 : Cond.methodLink "SurrogateTree" 29 ⟨"SurrogateTree$Node", "<init>", "()V"⟩ ∈ zn_TS := zn_in 68 (by decide +kernel) rfl
theorem zw_69 : Cond.instanceMethod ⟨"SurrogateTree$Node", "<init>", "()V"⟩ ∈ zn_TS := zn_in 69 (by decide +kernel) rfl
theorem zw_70 : Cond.code ⟨"SurrogateTree$Node", "<init>", "()V"⟩ prog_6_method_1_code 2 none ∈ zn_TS := zn_in 70 (by decide +kernel) rfl
theorem zw_71 : Cond.methodLink "SurrogateTree$Node" 3 ⟨"java/lang/Object", "<init>", "()V"⟩ ∈ zn_TS := zn_in 71 (by decide +kernel) rfl
theorem zw_72 : Cond.classLink "SurrogateTree$Node" 9 "SurrogateTree$Fraction" ∈ zn_TS := zn_in 72 (by decide +kernel) rfl
theorem zw_73 : Cond.instantiable "SurrogateTree$Fraction" 2 ∈ zn_TS := zn_in 73 (by decide +kernel) rfl
theorem zw_74 : Cond.methodLink "SurrogateTree$Node" 11 ⟨"SurrogateTree$Fraction", "<init>", "()V"⟩ ∈ zn_TS := zn_in 74 (by decide +kernel) rfl
theorem zw_75 : Cond.instanceMethod ⟨"SurrogateTree$Fraction", "<init>", "()V"⟩ ∈ zn_TS := zn_in 75 (by decide +kernel) rfl
theorem zw_76 : Cond.code ⟨"SurrogateTree$Fraction", "<init>", "()V"⟩ prog_4_method_1_code 1 none ∈ zn_TS := zn_in 76 (by decide +kernel) rfl
theorem zw_77 : Cond.methodLink "SurrogateTree$Fraction" 1 ⟨"java/lang/Object", "<init>", "()V"⟩ ∈ zn_TS := zn_in 77 (by decide +kernel) rfl
theorem zw_78 : Cond.fieldLink "SurrogateTree$Fraction" 7 "SurrogateTree$Fraction" "numerator" "J" ∈ zn_TS := zn_in 78 (by decide +kernel) rfl
theorem zw_79 : Cond.fieldLink "SurrogateTree$SplitSearch" 84 "SurrogateTree$Fraction" "numerator" "J" ∈ zn_TS := zn_in 79 (by decide +kernel) rfl
theorem zw_80 : Cond.fieldLink "SurrogateTree$Cutter" 62 "SurrogateTree$Fraction" "numerator" "J" ∈ zn_TS := zn_in 80 (by decide +kernel) rfl
theorem zw_81 : Cond.fieldLink "SurrogateTree" 151 "SurrogateTree$Fraction" "numerator" "J" ∈ zn_TS := zn_in 81 (by decide +kernel) rfl
theorem zw_82 : Cond.fieldLink "SurrogateTree$Fraction" 13 "SurrogateTree$Fraction" "denominator" "J" ∈ zn_TS := zn_in 82 (by decide +kernel) rfl
theorem zw_83 : Cond.fieldLink "SurrogateTree$Cutter" 66 "SurrogateTree$Fraction" "denominator" "J" ∈ zn_TS := zn_in 83 (by decide +kernel) rfl
theorem zw_84 : Cond.fieldLink "SurrogateTree" 159 "SurrogateTree$Fraction" "denominator" "J" ∈ zn_TS := zn_in 84 (by decide +kernel) rfl
theorem zw_85 : Cond.lays "SurrogateTree$Fraction" "SurrogateTree$Fraction" "numerator" "J" ∈ zn_TS := zn_in 85 (by decide +kernel) rfl
theorem zw_87 : Cond.lays "SurrogateTree$Fraction" "SurrogateTree$Fraction" "denominator" "J" ∈ zn_TS := zn_in 87 (by decide +kernel) rfl
theorem zw_90 : Cond.classLink "SurrogateTree$Node" 18 "SurrogateTree$StandIn" ∈ zn_TS := zn_in 90 (by decide +kernel) rfl
theorem zw_92 : Cond.instantiable "SurrogateTree$StandIn" 4 ∈ zn_TS := zn_in 92 (by decide +kernel) rfl
theorem zw_94 : Cond.instanceMethod ⟨"SurrogateTree$StandIn", "<init>", "()V"⟩ ∈ zn_TS := zn_in 94 (by decide +kernel) rfl
theorem zw_95 : Cond.code ⟨"SurrogateTree$StandIn", "<init>", "()V"⟩ prog_9_method_1_code 1 none ∈ zn_TS := zn_in 95 (by decide +kernel) rfl
theorem zw_96 : Cond.methodLink "SurrogateTree$StandIn" 1 ⟨"java/lang/Object", "<init>", "()V"⟩ ∈ zn_TS := zn_in 96 (by decide +kernel) rfl
theorem zw_97 : Cond.fieldLink "SurrogateTree$StandIn" 7 "SurrogateTree$StandIn" "feature" "I" ∈ zn_TS := zn_in 97 (by decide +kernel) rfl
theorem zw_98 : Cond.fieldLink "SurrogateTree$StandInSearch" 67 "SurrogateTree$StandIn" "feature" "I" ∈ zn_TS := zn_in 98 (by decide +kernel) rfl
theorem zw_99 : Cond.fieldLink "SurrogateTree$Node" 62 "SurrogateTree$StandIn" "feature" "I" ∈ zn_TS := zn_in 99 (by decide +kernel) rfl
theorem zw_100 : Cond.fieldLink "SurrogateTree$StandIn" 13 "SurrogateTree$StandIn" "limit" "I" ∈ zn_TS := zn_in 100 (by decide +kernel) rfl
theorem zw_101 : Cond.fieldLink "SurrogateTree$StandInSearch" 86 "SurrogateTree$StandIn" "limit" "I" ∈ zn_TS := zn_in 101 (by decide +kernel) rfl
theorem zw_102 : Cond.fieldLink "SurrogateTree" 146 "SurrogateTree$StandIn" "limit" "I" ∈ zn_TS := zn_in 102 (by decide +kernel) rfl
theorem zw_103 : Cond.fieldLink "SurrogateTree$StandIn" 16 "SurrogateTree$StandIn" "turned" "Z" ∈ zn_TS := zn_in 103 (by decide +kernel) rfl
theorem zw_104 : Cond.fieldLink "SurrogateTree$StandInSearch" 87 "SurrogateTree$StandIn" "turned" "Z" ∈ zn_TS := zn_in 104 (by decide +kernel) rfl
theorem zw_105 : Cond.fieldLink "SurrogateTree$StandIn" 20 "SurrogateTree$StandIn" "agreement" "I" ∈ zn_TS := zn_in 105 (by decide +kernel) rfl
theorem zw_106 : Cond.fieldLink "SurrogateTree$StandInSearch" 68 "SurrogateTree$StandIn" "agreement" "I" ∈ zn_TS := zn_in 106 (by decide +kernel) rfl
theorem zw_107 : Cond.fieldLink "SurrogateTree$Node" 48 "SurrogateTree$StandIn" "agreement" "I" ∈ zn_TS := zn_in 107 (by decide +kernel) rfl
theorem zw_108 : Cond.lays "SurrogateTree$StandIn" "SurrogateTree$StandIn" "feature" "I" ∈ zn_TS := zn_in 108 (by decide +kernel) rfl
theorem zw_110 : Cond.lays "SurrogateTree$StandIn" "SurrogateTree$StandIn" "limit" "I" ∈ zn_TS := zn_in 110 (by decide +kernel) rfl
theorem zw_112 : Cond.lays "SurrogateTree$StandIn" "SurrogateTree$StandIn" "turned" "Z" ∈ zn_TS := zn_in 112 (by decide +kernel) rfl
theorem zw_114 : Cond.lays "SurrogateTree$StandIn" "SurrogateTree$StandIn" "agreement" "I" ∈ zn_TS := zn_in 114 (by decide +kernel) rfl
theorem zw_117 : Cond.fieldLink "SurrogateTree$Node" 25 "SurrogateTree$Node" "rows" "I" ∈ zn_TS := zn_in 117 (by decide +kernel) rfl
theorem zw_118 : Cond.fieldLink "SurrogateTree$SplitSearch" 41 "SurrogateTree$Node" "rows" "I" ∈ zn_TS := zn_in 118 (by decide +kernel) rfl
theorem zw_119 : Cond.fieldLink "SurrogateTree$StandInSearch" 42 "SurrogateTree$Node" "rows" "I" ∈ zn_TS := zn_in 119 (by decide +kernel) rfl
theorem zw_120 : Cond.fieldLink "SurrogateTree" 162 "SurrogateTree$Node" "rows" "I" ∈ zn_TS := zn_in 120 (by decide +kernel) rfl
theorem zw_121 : Cond.fieldLink "SurrogateTree$Node" 29 "SurrogateTree$Node" "majority" "I" ∈ zn_TS := zn_in 121 (by decide +kernel) rfl
theorem zw_122 : Cond.fieldLink "SurrogateTree" 165 "SurrogateTree$Node" "majority" "I" ∈ zn_TS := zn_in 122 (by decide +kernel) rfl
theorem zw_123 : Cond.fieldLink "SurrogateTree$Cutter" 42 "SurrogateTree$Node" "strays" "I" ∈ zn_TS := zn_in 123 (by decide +kernel) rfl
theorem zw_124 : Cond.fieldLink "SurrogateTree$Node" 42 "SurrogateTree$Node" "strays" "I" ∈ zn_TS := zn_in 124 (by decide +kernel) rfl
theorem zw_125 : Cond.fieldLink "SurrogateTree" 168 "SurrogateTree$Node" "strays" "I" ∈ zn_TS := zn_in 125 (by decide +kernel) rfl
theorem zw_126 : Cond.fieldLink "SurrogateTree$StandInSearch" 31 "SurrogateTree$Node" "feature" "I" ∈ zn_TS := zn_in 126 (by decide +kernel) rfl
theorem zw_127 : Cond.fieldLink "SurrogateTree$SplitSearch" 102 "SurrogateTree$Node" "feature" "I" ∈ zn_TS := zn_in 127 (by decide +kernel) rfl
theorem zw_128 : Cond.fieldLink "SurrogateTree$Node" 55 "SurrogateTree$Node" "feature" "I" ∈ zn_TS := zn_in 128 (by decide +kernel) rfl
theorem zw_129 : Cond.fieldLink "SurrogateTree" 128 "SurrogateTree$Node" "feature" "I" ∈ zn_TS := zn_in 129 (by decide +kernel) rfl
theorem zw_130 : Cond.fieldLink "SurrogateTree$StandInSearch" 51 "SurrogateTree$Node" "limit" "I" ∈ zn_TS := zn_in 130 (by decide +kernel) rfl
theorem zw_131 : Cond.fieldLink "SurrogateTree$SplitSearch" 105 "SurrogateTree$Node" "limit" "I" ∈ zn_TS := zn_in 131 (by decide +kernel) rfl
theorem zw_132 : Cond.fieldLink "SurrogateTree$Node" 59 "SurrogateTree$Node" "limit" "I" ∈ zn_TS := zn_in 132 (by decide +kernel) rfl
theorem zw_133 : Cond.fieldLink "SurrogateTree" 143 "SurrogateTree$Node" "limit" "I" ∈ zn_TS := zn_in 133 (by decide +kernel) rfl
theorem zw_134 : Cond.fieldLink "SurrogateTree$Node" 12 "SurrogateTree$Node" "worth" "LSurrogateTree$Fraction;" ∈ zn_TS := zn_in 134 (by decide +kernel) rfl
theorem zw_135 : Cond.fieldLink "SurrogateTree$SplitSearch" 32 "SurrogateTree$Node" "worth" "LSurrogateTree$Fraction;" ∈ zn_TS := zn_in 135 (by decide +kernel) rfl
theorem zw_136 : Cond.fieldLink "SurrogateTree" 147 "SurrogateTree$Node" "worth" "LSurrogateTree$Fraction;" ∈ zn_TS := zn_in 136 (by decide +kernel) rfl
theorem zw_137 : Cond.fieldLink "SurrogateTree$SplitSearch" 108 "SurrogateTree$Node" "leansLeft" "Z" ∈ zn_TS := zn_in 137 (by decide +kernel) rfl
theorem zw_138 : Cond.fieldLink "SurrogateTree$Node" 67 "SurrogateTree$Node" "leansLeft" "Z" ∈ zn_TS := zn_in 138 (by decide +kernel) rfl
theorem zw_139 : Cond.fieldLink "SurrogateTree$Node" 20 "SurrogateTree$Node" "standIns" "[LSurrogateTree$StandIn;" ∈ zn_TS := zn_in 139 (by decide +kernel) rfl
theorem zw_140 : Cond.fieldLink "SurrogateTree" 134 "SurrogateTree$Node" "standIns" "[LSurrogateTree$StandIn;" ∈ zn_TS := zn_in 140 (by decide +kernel) rfl
theorem zw_141 : Cond.fieldLink "SurrogateTree$StandInSearch" 25 "SurrogateTree$Node" "standInCount" "I" ∈ zn_TS := zn_in 141 (by decide +kernel) rfl
theorem zw_142 : Cond.fieldLink "SurrogateTree$Node" 45 "SurrogateTree$Node" "standInCount" "I" ∈ zn_TS := zn_in 142 (by decide +kernel) rfl
theorem zw_143 : Cond.lays "SurrogateTree$Node" "SurrogateTree$Node" "rows" "I" ∈ zn_TS := zn_in 143 (by decide +kernel) rfl
theorem zw_145 : Cond.lays "SurrogateTree$Node" "SurrogateTree$Node" "majority" "I" ∈ zn_TS := zn_in 145 (by decide +kernel) rfl
theorem zw_147 : Cond.lays "SurrogateTree$Node" "SurrogateTree$Node" "strays" "I" ∈ zn_TS := zn_in 147 (by decide +kernel) rfl
theorem zw_149 : Cond.lays "SurrogateTree$Node" "SurrogateTree$Node" "feature" "I" ∈ zn_TS := zn_in 149 (by decide +kernel) rfl
theorem zw_151 : Cond.lays "SurrogateTree$Node" "SurrogateTree$Node" "limit" "I" ∈ zn_TS := zn_in 151 (by decide +kernel) rfl
theorem zw_153 : Cond.laysFinal "SurrogateTree$Node" "SurrogateTree$Node" "worth" "LSurrogateTree$Fraction;" ∈ zn_TS := zn_in 153 (by decide +kernel) rfl
theorem zw_155 : Cond.lays "SurrogateTree$Node" "SurrogateTree$Node" "leansLeft" "Z" ∈ zn_TS := zn_in 155 (by decide +kernel) rfl
theorem zw_157 : Cond.laysFinal "SurrogateTree$Node" "SurrogateTree$Node" "standIns" "[LSurrogateTree$StandIn;" ∈ zn_TS := zn_in 157 (by decide +kernel) rfl
theorem zw_159 : Cond.lays "SurrogateTree$Node" "SurrogateTree$Node" "standInCount" "I" ∈ zn_TS := zn_in 159 (by decide +kernel) rfl
theorem zw_162 : Cond.classLink "SurrogateTree" 30 "SurrogateTree$Shape" ∈ zn_TS := zn_in 162 (by decide +kernel) rfl
theorem zw_163 : Cond.instantiable "SurrogateTree$Shape" 1 ∈ zn_TS := zn_in 163 (by decide +kernel) rfl
theorem zw_164 : Cond.methodLink "SurrogateTree" 32 ⟨"SurrogateTree$Shape", "<init>", "()V"⟩ ∈ zn_TS := zn_in 164 (by decide +kernel) rfl
theorem zw_165 : Cond.instanceMethod ⟨"SurrogateTree$Shape", "<init>", "()V"⟩ ∈ zn_TS := zn_in 165 (by decide +kernel) rfl
theorem zw_166 : Cond.code ⟨"SurrogateTree$Shape", "<init>", "()V"⟩ prog_7_method_1_code 1 none ∈ zn_TS := zn_in 166 (by decide +kernel) rfl
theorem zw_167 : Cond.methodLink "SurrogateTree$Shape" 3 ⟨"java/lang/Object", "<init>", "()V"⟩ ∈ zn_TS := zn_in 167 (by decide +kernel) rfl
theorem zw_168 : Cond.methodLink "SurrogateTree$Shape" 15 ⟨"SurrogateTree$Shape", "clear", "()V"⟩ ∈ zn_TS := zn_in 168 (by decide +kernel) rfl
theorem zw_169 : Cond.instanceMethod ⟨"SurrogateTree$Shape", "clear", "()V"⟩ ∈ zn_TS := zn_in 169 (by decide +kernel) rfl
theorem zw_170 : Cond.selects "SurrogateTree$Shape" ⟨"SurrogateTree$Shape", "clear", "()V"⟩ ⟨"SurrogateTree$Shape", "clear", "()V"⟩ ∈ zn_TS := zn_in 170 (by decide +kernel) rfl
theorem zw_171 : Cond.code ⟨"SurrogateTree$Shape", "clear", "()V"⟩ prog_7_method_2_code 2 none ∈ zn_TS := zn_in 171 (by decide +kernel) rfl
theorem zw_172 : Cond.fieldLink "SurrogateTree$Shape" 9 "SurrogateTree$Shape" "kinds" "[I" ∈ zn_TS := zn_in 172 (by decide +kernel) rfl
theorem zw_173 : Cond.fieldLink "SurrogateTree$Cutter" 48 "SurrogateTree$Shape" "kinds" "[I" ∈ zn_TS := zn_in 173 (by decide +kernel) rfl
theorem zw_174 : Cond.fieldLink "SurrogateTree" 219 "SurrogateTree$Shape" "kinds" "[I" ∈ zn_TS := zn_in 174 (by decide +kernel) rfl
theorem zw_175 : Cond.laysFinal "SurrogateTree$Shape" "SurrogateTree$Shape" "kinds" "[I" ∈ zn_TS := zn_in 175 (by decide +kernel) rfl
theorem zw_178 : Cond.classLink "SurrogateTree" 40 "SurrogateTree$SplitSearch" ∈ zn_TS := zn_in 178 (by decide +kernel) rfl
theorem zw_179 : Cond.instantiable "SurrogateTree$SplitSearch" 6 ∈ zn_TS := zn_in 179 (by decide +kernel) rfl
theorem zw_180 : Cond.methodLink "SurrogateTree" 42 ⟨"SurrogateTree$SplitSearch", "<init>", "()V"⟩ ∈ zn_TS := zn_in 180 (by decide +kernel) rfl
theorem zw_181 : Cond.instanceMethod ⟨"SurrogateTree$SplitSearch", "<init>", "()V"⟩ ∈ zn_TS := zn_in 181 (by decide +kernel) rfl
theorem zw_182 : Cond.code ⟨"SurrogateTree$SplitSearch", "<init>", "()V"⟩ prog_8_method_1_code 1 none ∈ zn_TS := zn_in 182 (by decide +kernel) rfl
theorem zw_183 : Cond.methodLink "SurrogateTree$SplitSearch" 3 ⟨"java/lang/Object", "<init>", "()V"⟩ ∈ zn_TS := zn_in 183 (by decide +kernel) rfl
theorem zw_184 : Cond.classLink "SurrogateTree$SplitSearch" 9 "SurrogateTree$Limits" ∈ zn_TS := zn_in 184 (by decide +kernel) rfl
theorem zw_185 : Cond.instantiable "SurrogateTree$Limits" 2 ∈ zn_TS := zn_in 185 (by decide +kernel) rfl
theorem zw_186 : Cond.methodLink "SurrogateTree$SplitSearch" 11 ⟨"SurrogateTree$Limits", "<init>", "()V"⟩ ∈ zn_TS := zn_in 186 (by decide +kernel) rfl
theorem zw_187 : Cond.instanceMethod ⟨"SurrogateTree$Limits", "<init>", "()V"⟩ ∈ zn_TS := zn_in 187 (by decide +kernel) rfl
theorem zw_188 : Cond.code ⟨"SurrogateTree$Limits", "<init>", "()V"⟩ prog_5_method_1_code 1 none ∈ zn_TS := zn_in 188 (by decide +kernel) rfl
theorem zw_189 : Cond.methodLink "SurrogateTree$Limits" 3 ⟨"java/lang/Object", "<init>", "()V"⟩ ∈ zn_TS := zn_in 189 (by decide +kernel) rfl
theorem zw_190 : Cond.fieldLink "SurrogateTree$Limits" 9 "SurrogateTree$Limits" "sorted" "[I" ∈ zn_TS := zn_in 190 (by decide +kernel) rfl
theorem zw_191 : Cond.fieldLink "SurrogateTree$Limits" 15 "SurrogateTree$Limits" "distinct" "I" ∈ zn_TS := zn_in 191 (by decide +kernel) rfl
theorem zw_192 : Cond.laysFinal "SurrogateTree$Limits" "SurrogateTree$Limits" "sorted" "[I" ∈ zn_TS := zn_in 192 (by decide +kernel) rfl
theorem zw_194 : Cond.lays "SurrogateTree$Limits" "SurrogateTree$Limits" "distinct" "I" ∈ zn_TS := zn_in 194 (by decide +kernel) rfl
theorem zw_197 : Cond.classLink "SurrogateTree$SplitSearch" 25 "SurrogateTree$Fraction" ∈ zn_TS := zn_in 197 (by decide +kernel) rfl
theorem zw_198 : Cond.methodLink "SurrogateTree$SplitSearch" 27 ⟨"SurrogateTree$Fraction", "<init>", "()V"⟩ ∈ zn_TS := zn_in 198 (by decide +kernel) rfl
theorem zw_199 : Cond.fieldLink "SurrogateTree$SplitSearch" 12 "SurrogateTree$SplitSearch" "limits" "LSurrogateTree$Limits;" ∈ zn_TS := zn_in 199 (by decide +kernel) rfl
theorem zw_200 : Cond.fieldLink "SurrogateTree$SplitSearch" 18 "SurrogateTree$SplitSearch" "left" "[I" ∈ zn_TS := zn_in 200 (by decide +kernel) rfl
theorem zw_201 : Cond.fieldLink "SurrogateTree$SplitSearch" 22 "SurrogateTree$SplitSearch" "right" "[I" ∈ zn_TS := zn_in 201 (by decide +kernel) rfl
theorem zw_202 : Cond.fieldLink "SurrogateTree$SplitSearch" 70 "SurrogateTree$SplitSearch" "leftWeight" "I" ∈ zn_TS := zn_in 202 (by decide +kernel) rfl
theorem zw_203 : Cond.fieldLink "SurrogateTree$SplitSearch" 73 "SurrogateTree$SplitSearch" "rightWeight" "I" ∈ zn_TS := zn_in 203 (by decide +kernel) rfl
theorem zw_204 : Cond.fieldLink "SurrogateTree$SplitSearch" 28 "SurrogateTree$SplitSearch" "candidate" "LSurrogateTree$Fraction;" ∈ zn_TS := zn_in 204 (by decide +kernel) rfl
theorem zw_205 : Cond.laysFinal "SurrogateTree$SplitSearch" "SurrogateTree$SplitSearch" "limits" "LSurrogateTree$Limits;" ∈ zn_TS := zn_in 205 (by decide +kernel) rfl
theorem zw_207 : Cond.laysFinal "SurrogateTree$SplitSearch" "SurrogateTree$SplitSearch" "left" "[I" ∈ zn_TS := zn_in 207 (by decide +kernel) rfl
theorem zw_209 : Cond.laysFinal "SurrogateTree$SplitSearch" "SurrogateTree$SplitSearch" "right" "[I" ∈ zn_TS := zn_in 209 (by decide +kernel) rfl
theorem zw_211 : Cond.lays "SurrogateTree$SplitSearch" "SurrogateTree$SplitSearch" "leftWeight" "I" ∈ zn_TS := zn_in 211 (by decide +kernel) rfl
theorem zw_213 : Cond.lays "SurrogateTree$SplitSearch" "SurrogateTree$SplitSearch" "rightWeight" "I" ∈ zn_TS := zn_in 213 (by decide +kernel) rfl
theorem zw_215 : Cond.laysFinal "SurrogateTree$SplitSearch" "SurrogateTree$SplitSearch" "candidate" "LSurrogateTree$Fraction;" ∈ zn_TS := zn_in 215 (by decide +kernel) rfl
theorem zw_218 : Cond.classLink "SurrogateTree" 47 "SurrogateTree$StandInSearch" ∈ zn_TS := zn_in 218 (by decide +kernel) rfl
theorem zw_219 : Cond.instantiable "SurrogateTree$StandInSearch" 2 ∈ zn_TS := zn_in 219 (by decide +kernel) rfl
theorem zw_220 : Cond.methodLink "SurrogateTree" 49 ⟨"SurrogateTree$StandInSearch", "<init>", "()V"⟩ ∈ zn_TS := zn_in 220 (by decide +kernel) rfl
theorem zw_221 : Cond.instanceMethod ⟨"SurrogateTree$StandInSearch", "<init>", "()V"⟩ ∈ zn_TS := zn_in 221 (by decide +kernel) rfl
theorem zw_222 : Cond.code ⟨"SurrogateTree$StandInSearch", "<init>", "()V"⟩ prog_10_method_1_code 1 none ∈ zn_TS := zn_in 222 (by decide +kernel) rfl
theorem zw_223 : Cond.methodLink "SurrogateTree$StandInSearch" 3 ⟨"java/lang/Object", "<init>", "()V"⟩ ∈ zn_TS := zn_in 223 (by decide +kernel) rfl
theorem zw_224 : Cond.classLink "SurrogateTree$StandInSearch" 9 "SurrogateTree$Limits" ∈ zn_TS := zn_in 224 (by decide +kernel) rfl
theorem zw_225 : Cond.methodLink "SurrogateTree$StandInSearch" 11 ⟨"SurrogateTree$Limits", "<init>", "()V"⟩ ∈ zn_TS := zn_in 225 (by decide +kernel) rfl
theorem zw_226 : Cond.classLink "SurrogateTree$StandInSearch" 18 "SurrogateTree$StandIn" ∈ zn_TS := zn_in 226 (by decide +kernel) rfl
theorem zw_228 : Cond.fieldLink "SurrogateTree$StandInSearch" 12 "SurrogateTree$StandInSearch" "limits" "LSurrogateTree$Limits;" ∈ zn_TS := zn_in 228 (by decide +kernel) rfl
theorem zw_229 : Cond.fieldLink "SurrogateTree$StandInSearch" 21 "SurrogateTree$StandInSearch" "best" "LSurrogateTree$StandIn;" ∈ zn_TS := zn_in 229 (by decide +kernel) rfl
theorem zw_230 : Cond.laysFinal "SurrogateTree$StandInSearch" "SurrogateTree$StandInSearch" "limits" "LSurrogateTree$Limits;" ∈ zn_TS := zn_in 230 (by decide +kernel) rfl
theorem zw_232 : Cond.laysFinal "SurrogateTree$StandInSearch" "SurrogateTree$StandInSearch" "best" "LSurrogateTree$StandIn;" ∈ zn_TS := zn_in 232 (by decide +kernel) rfl
theorem zw_235 : Cond.classLink "SurrogateTree" 54 "SurrogateTree$Cutter" ∈ zn_TS := zn_in 235 (by decide +kernel) rfl
theorem zw_236 : Cond.instantiable "SurrogateTree$Cutter" 6 ∈ zn_TS := zn_in 236 (by decide +kernel) rfl
theorem zw_237 : Cond.methodLink "SurrogateTree" 56 ⟨"SurrogateTree$Cutter", "<init>", "()V"⟩ ∈ zn_TS := zn_in 237 (by decide +kernel) rfl
theorem zw_238 : Cond.instanceMethod ⟨"SurrogateTree$Cutter", "<init>", "()V"⟩ ∈ zn_TS := zn_in 238 (by decide +kernel) rfl
theorem zw_239 : Cond.code ⟨"SurrogateTree$Cutter", "<init>", "()V"⟩ prog_3_method_1_code 1 none ∈ zn_TS := zn_in 239 (by decide +kernel) rfl
theorem zw_240 : Cond.methodLink "SurrogateTree$Cutter" 3 ⟨"java/lang/Object", "<init>", "()V"⟩ ∈ zn_TS := zn_in 240 (by decide +kernel) rfl
theorem zw_241 : Cond.classLink "SurrogateTree$Cutter" 9 "SurrogateTree$Fraction" ∈ zn_TS := zn_in 241 (by decide +kernel) rfl
theorem zw_242 : Cond.methodLink "SurrogateTree$Cutter" 11 ⟨"SurrogateTree$Fraction", "<init>", "()V"⟩ ∈ zn_TS := zn_in 242 (by decide +kernel) rfl
theorem zw_243 : Cond.classLink "SurrogateTree$Cutter" 18 "SurrogateTree$Shape" ∈ zn_TS := zn_in 243 (by decide +kernel) rfl
theorem zw_244 : Cond.methodLink "SurrogateTree$Cutter" 20 ⟨"SurrogateTree$Shape", "<init>", "()V"⟩ ∈ zn_TS := zn_in 244 (by decide +kernel) rfl
theorem zw_245 : Cond.fieldLink "SurrogateTree$Cutter" 12 "SurrogateTree$Cutter" "found" "LSurrogateTree$Fraction;" ∈ zn_TS := zn_in 245 (by decide +kernel) rfl
theorem zw_246 : Cond.fieldLink "SurrogateTree" 189 "SurrogateTree$Cutter" "found" "LSurrogateTree$Fraction;" ∈ zn_TS := zn_in 246 (by decide +kernel) rfl
theorem zw_247 : Cond.fieldLink "SurrogateTree$Cutter" 21 "SurrogateTree$Cutter" "rest" "LSurrogateTree$Shape;" ∈ zn_TS := zn_in 247 (by decide +kernel) rfl
theorem zw_248 : Cond.fieldLink "SurrogateTree$Cutter" 25 "SurrogateTree$Cutter" "candidate" "LSurrogateTree$Fraction;" ∈ zn_TS := zn_in 248 (by decide +kernel) rfl
theorem zw_249 : Cond.fieldLink "SurrogateTree$Cutter" 28 "SurrogateTree$Cutter" "costs" "[I" ∈ zn_TS := zn_in 249 (by decide +kernel) rfl
theorem zw_250 : Cond.fieldLink "SurrogateTree$Cutter" 32 "SurrogateTree$Cutter" "leavesBelow" "[I" ∈ zn_TS := zn_in 250 (by decide +kernel) rfl
theorem zw_251 : Cond.fieldLink "SurrogateTree$Cutter" 35 "SurrogateTree$Cutter" "straysBelow" "[I" ∈ zn_TS := zn_in 251 (by decide +kernel) rfl
theorem zw_252 : Cond.laysFinal "SurrogateTree$Cutter" "SurrogateTree$Cutter" "found" "LSurrogateTree$Fraction;" ∈ zn_TS := zn_in 252 (by decide +kernel) rfl
theorem zw_254 : Cond.laysFinal "SurrogateTree$Cutter" "SurrogateTree$Cutter" "rest" "LSurrogateTree$Shape;" ∈ zn_TS := zn_in 254 (by decide +kernel) rfl
theorem zw_256 : Cond.laysFinal "SurrogateTree$Cutter" "SurrogateTree$Cutter" "candidate" "LSurrogateTree$Fraction;" ∈ zn_TS := zn_in 256 (by decide +kernel) rfl
theorem zw_258 : Cond.laysFinal "SurrogateTree$Cutter" "SurrogateTree$Cutter" "costs" "[I" ∈ zn_TS := zn_in 258 (by decide +kernel) rfl
theorem zw_260 : Cond.laysFinal "SurrogateTree$Cutter" "SurrogateTree$Cutter" "leavesBelow" "[I" ∈ zn_TS := zn_in 260 (by decide +kernel) rfl
theorem zw_262 : Cond.laysFinal "SurrogateTree$Cutter" "SurrogateTree$Cutter" "straysBelow" "[I" ∈ zn_TS := zn_in 262 (by decide +kernel) rfl
theorem zw_265 : Cond.methodLink "SurrogateTree" 75 ⟨"SurrogateTree", "startAnew", "()V"⟩ ∈ zn_TS := zn_in 265 (by decide +kernel) rfl
theorem zw_267 : Cond.instanceMethod ⟨"SurrogateTree", "startAnew", "()V"⟩ ∈ zn_TS := zn_in 267 (by decide +kernel) rfl
theorem zw_268 : Cond.code ⟨"SurrogateTree", "startAnew", "()V"⟩ prog_1_method_23_code 1 none ∈ zn_TS := zn_in 268 (by decide +kernel) rfl
theorem zw_269 : Cond.methodLink "SurrogateTree" 211 ⟨"SurrogateTree$Shape", "clear", "()V"⟩ ∈ zn_TS := zn_in 269 (by decide +kernel) rfl
theorem zw_270 : Cond.methodLink "SurrogateTree" 100 ⟨"SurrogateTree$Table", "weightyRows", "()I"⟩ ∈ zn_TS := zn_in 270 (by decide +kernel) rfl
theorem zw_271 : Cond.instanceMethod ⟨"SurrogateTree$Table", "weightyRows", "()I"⟩ ∈ zn_TS := zn_in 271 (by decide +kernel) rfl
theorem zw_272 : Cond.selects "SurrogateTree$Table" ⟨"SurrogateTree$Table", "weightyRows", "()I"⟩ ⟨"SurrogateTree$Table", "weightyRows", "()I"⟩ ∈ zn_TS := zn_in 272 (by decide +kernel) rfl
theorem zw_273 : Cond.code ⟨"SurrogateTree$Table", "weightyRows", "()I"⟩ prog_11_method_7_code 3 (some .int) ∈ zn_TS := zn_in 273 (by decide +kernel) rfl
theorem zw_274 : Cond.methodLink "SurrogateTree" 212 ⟨"SurrogateTree", "openNode", "(II)V"⟩ ∈ zn_TS := zn_in 274 (by decide +kernel) rfl
theorem zw_276 : Cond.instanceMethod ⟨"SurrogateTree", "openNode", "(II)V"⟩ ∈ zn_TS := zn_in 276 (by decide +kernel) rfl
theorem zw_277 : Cond.code ⟨"SurrogateTree", "openNode", "(II)V"⟩ prog_1_method_24_code 3 none ∈ zn_TS := zn_in 277 (by decide +kernel) rfl
theorem zw_278 : Cond.methodLink "SurrogateTree" 215 ⟨"SurrogateTree$Node", "takeRows", "(LSurrogateTree$Table;I)V"⟩ ∈ zn_TS := zn_in 278 (by decide +kernel) rfl
theorem zw_279 : Cond.instanceMethod ⟨"SurrogateTree$Node", "takeRows", "(LSurrogateTree$Table;I)V"⟩ ∈ zn_TS := zn_in 279 (by decide +kernel) rfl
theorem zw_280 : Cond.selects "SurrogateTree$Node" ⟨"SurrogateTree$Node", "takeRows", "(LSurrogateTree$Table;I)V"⟩ ⟨"SurrogateTree$Node", "takeRows", "(LSurrogateTree$Table;I)V"⟩ ∈ zn_TS := zn_in 280 (by decide +kernel) rfl
theorem zw_281 : Cond.code ⟨"SurrogateTree$Node", "takeRows", "(LSurrogateTree$Table;I)V"⟩ prog_6_method_2_code 6 none ∈ zn_TS := zn_in 281 (by decide +kernel) rfl
theorem zw_282 : Cond.methodLink "SurrogateTree$Node" 32 ⟨"SurrogateTree$Table", "rowsInClass", "(II)I"⟩ ∈ zn_TS := zn_in 282 (by decide +kernel) rfl
theorem zw_283 : Cond.instanceMethod ⟨"SurrogateTree$Table", "rowsInClass", "(II)I"⟩ ∈ zn_TS := zn_in 283 (by decide +kernel) rfl
theorem zw_284 : Cond.selects "SurrogateTree$Table" ⟨"SurrogateTree$Table", "rowsInClass", "(II)I"⟩ ⟨"SurrogateTree$Table", "rowsInClass", "(II)I"⟩ ∈ zn_TS := zn_in 284 (by decide +kernel) rfl
theorem zw_285 : Cond.code ⟨"SurrogateTree$Table", "rowsInClass", "(II)I"⟩ prog_11_method_9_code 5 (some .int) ∈ zn_TS := zn_in 285 (by decide +kernel) rfl
theorem zw_286 : Cond.methodLink "SurrogateTree$Table" 39 ⟨"SurrogateTree$Table", "contains", "(II)Z"⟩ ∈ zn_TS := zn_in 286 (by decide +kernel) rfl
theorem zw_287 : Cond.static ⟨"SurrogateTree$Table", "contains", "(II)Z"⟩ ∈ zn_TS := zn_in 287 (by decide +kernel) rfl
theorem zw_288 : Cond.code ⟨"SurrogateTree$Table", "contains", "(II)Z"⟩ prog_11_method_12_code 2 (some .boolean) ∈ zn_TS := zn_in 288 (by decide +kernel) rfl
theorem zw_289 : Cond.methodLink "SurrogateTree$Node" 38 ⟨"SurrogateTree$Table", "weightOf", "(I)I"⟩ ∈ zn_TS := zn_in 289 (by decide +kernel) rfl
theorem zw_290 : Cond.instanceMethod ⟨"SurrogateTree$Table", "weightOf", "(I)I"⟩ ∈ zn_TS := zn_in 290 (by decide +kernel) rfl
theorem zw_291 : Cond.selects "SurrogateTree$Table" ⟨"SurrogateTree$Table", "weightOf", "(I)I"⟩ ⟨"SurrogateTree$Table", "weightOf", "(I)I"⟩ ∈ zn_TS := zn_in 291 (by decide +kernel) rfl
theorem zw_292 : Cond.code ⟨"SurrogateTree$Table", "weightOf", "(I)I"⟩ prog_11_method_8_code 4 (some .int) ∈ zn_TS := zn_in 292 (by decide +kernel) rfl
theorem zw_293 : Cond.fieldLink "SurrogateTree" 10 "SurrogateTree" "table" "LSurrogateTree$Table;" ∈ zn_TS := zn_in 293 (by decide +kernel) rfl
theorem zw_294 : Cond.fieldLink "SurrogateTree" 19 "SurrogateTree" "ballot" "LSurrogateTree$Ballot;" ∈ zn_TS := zn_in 294 (by decide +kernel) rfl
theorem zw_295 : Cond.fieldLink "SurrogateTree" 25 "SurrogateTree" "nodes" "[LSurrogateTree$Node;" ∈ zn_TS := zn_in 295 (by decide +kernel) rfl
theorem zw_296 : Cond.fieldLink "SurrogateTree" 33 "SurrogateTree" "grown" "LSurrogateTree$Shape;" ∈ zn_TS := zn_in 296 (by decide +kernel) rfl
theorem zw_297 : Cond.fieldLink "SurrogateTree" 37 "SurrogateTree" "trimmed" "LSurrogateTree$Shape;" ∈ zn_TS := zn_in 297 (by decide +kernel) rfl
theorem zw_298 : Cond.fieldLink "SurrogateTree" 43 "SurrogateTree" "splitSearch" "LSurrogateTree$SplitSearch;" ∈ zn_TS := zn_in 298 (by decide +kernel) rfl
theorem zw_299 : Cond.fieldLink "SurrogateTree" 50 "SurrogateTree" "standInSearch" "LSurrogateTree$StandInSearch;" ∈ zn_TS := zn_in 299 (by decide +kernel) rfl
theorem zw_300 : Cond.fieldLink "SurrogateTree" 57 "SurrogateTree" "cutter" "LSurrogateTree$Cutter;" ∈ zn_TS := zn_in 300 (by decide +kernel) rfl
theorem zw_301 : Cond.fieldLink "SurrogateTree" 61 "SurrogateTree" "asked" "[I" ∈ zn_TS := zn_in 301 (by decide +kernel) rfl
theorem zw_302 : Cond.fieldLink "SurrogateTree" 122 "SurrogateTree" "shown" "LSurrogateTree$Shape;" ∈ zn_TS := zn_in 302 (by decide +kernel) rfl
theorem zw_303 : Cond.fieldLink "SurrogateTree" 65 "SurrogateTree" "criterion" "I" ∈ zn_TS := zn_in 303 (by decide +kernel) rfl
theorem zw_304 : Cond.fieldLink "SurrogateTree" 69 "SurrogateTree" "depthLimit" "I" ∈ zn_TS := zn_in 304 (by decide +kernel) rfl
theorem zw_305 : Cond.fieldLink "SurrogateTree" 72 "SurrogateTree" "leafSize" "I" ∈ zn_TS := zn_in 305 (by decide +kernel) rfl
theorem zw_306 : Cond.laysFinal "SurrogateTree" "SurrogateTree" "table" "LSurrogateTree$Table;" ∈ zn_TS := zn_in 306 (by decide +kernel) rfl
theorem zw_308 : Cond.laysFinal "SurrogateTree" "SurrogateTree" "ballot" "LSurrogateTree$Ballot;" ∈ zn_TS := zn_in 308 (by decide +kernel) rfl
theorem zw_310 : Cond.laysFinal "SurrogateTree" "SurrogateTree" "nodes" "[LSurrogateTree$Node;" ∈ zn_TS := zn_in 310 (by decide +kernel) rfl
theorem zw_312 : Cond.laysFinal "SurrogateTree" "SurrogateTree" "grown" "LSurrogateTree$Shape;" ∈ zn_TS := zn_in 312 (by decide +kernel) rfl
theorem zw_314 : Cond.laysFinal "SurrogateTree" "SurrogateTree" "trimmed" "LSurrogateTree$Shape;" ∈ zn_TS := zn_in 314 (by decide +kernel) rfl
theorem zw_316 : Cond.laysFinal "SurrogateTree" "SurrogateTree" "splitSearch" "LSurrogateTree$SplitSearch;" ∈ zn_TS := zn_in 316 (by decide +kernel) rfl
theorem zw_318 : Cond.laysFinal "SurrogateTree" "SurrogateTree" "standInSearch" "LSurrogateTree$StandInSearch;" ∈ zn_TS := zn_in 318 (by decide +kernel) rfl
theorem zw_320 : Cond.laysFinal "SurrogateTree" "SurrogateTree" "cutter" "LSurrogateTree$Cutter;" ∈ zn_TS := zn_in 320 (by decide +kernel) rfl
theorem zw_322 : Cond.laysFinal "SurrogateTree" "SurrogateTree" "asked" "[I" ∈ zn_TS := zn_in 322 (by decide +kernel) rfl
theorem zw_324 : Cond.lays "SurrogateTree" "SurrogateTree" "shown" "LSurrogateTree$Shape;" ∈ zn_TS := zn_in 324 (by decide +kernel) rfl
theorem zw_326 : Cond.lays "SurrogateTree" "SurrogateTree" "criterion" "I" ∈ zn_TS := zn_in 326 (by decide +kernel) rfl
theorem zw_328 : Cond.lays "SurrogateTree" "SurrogateTree" "depthLimit" "I" ∈ zn_TS := zn_in 328 (by decide +kernel) rfl
theorem zw_330 : Cond.lays "SurrogateTree" "SurrogateTree" "leafSize" "I" ∈ zn_TS := zn_in 330 (by decide +kernel) rfl
theorem zw_333 : Cond.methodLink "SurrogateTreeLaw" 13 ⟨"SurrogateTree", "addRow", "(IIII)I"⟩ ∈ zn_TS := zn_in 333 (by decide +kernel) rfl
theorem zw_334 : Cond.instanceMethod ⟨"SurrogateTree", "addRow", "(IIII)I"⟩ ∈ zn_TS := zn_in 334 (by decide +kernel) rfl
theorem zw_335 : Cond.selects "SurrogateTree" ⟨"SurrogateTree", "addRow", "(IIII)I"⟩ ⟨"SurrogateTree", "addRow", "(IIII)I"⟩ ∈ zn_TS := zn_in 335 (by decide +kernel) rfl
theorem zw_336 : Cond.code ⟨"SurrogateTree", "addRow", "(IIII)I"⟩ prog_1_method_2_code 6 (some .int) ∈ zn_TS := zn_in 336 (by decide +kernel) rfl
theorem zw_337 : Cond.methodLink "SurrogateTree" 78 ⟨"SurrogateTree", "isClass", "(I)Z"⟩ ∈ zn_TS := zn_in 337 (by decide +kernel) rfl
theorem zw_338 : Cond.static ⟨"SurrogateTree", "isClass", "(I)Z"⟩ ∈ zn_TS := zn_in 338 (by decide +kernel) rfl
theorem zw_339 : Cond.code ⟨"SurrogateTree", "isClass", "(I)Z"⟩ prog_1_method_21_code 1 (some .boolean) ∈ zn_TS := zn_in 339 (by decide +kernel) rfl
theorem zw_340 : Cond.methodLink "SurrogateTree" 85 ⟨"SurrogateTree$Table", "append", "(IIII)I"⟩ ∈ zn_TS := zn_in 340 (by decide +kernel) rfl
theorem zw_341 : Cond.instanceMethod ⟨"SurrogateTree$Table", "append", "(IIII)I"⟩ ∈ zn_TS := zn_in 341 (by decide +kernel) rfl
theorem zw_342 : Cond.selects "SurrogateTree$Table" ⟨"SurrogateTree$Table", "append", "(IIII)I"⟩ ⟨"SurrogateTree$Table", "append", "(IIII)I"⟩ ∈ zn_TS := zn_in 342 (by decide +kernel) rfl
theorem zw_343 : Cond.code ⟨"SurrogateTree$Table", "append", "(IIII)I"⟩ prog_11_method_3_code 6 (some .int) ∈ zn_TS := zn_in 343 (by decide +kernel) rfl
theorem zw_344 : Cond.methodLink "SurrogateTree" 89 ⟨"SurrogateTree$Table", "setWeights", "(I)V"⟩ ∈ zn_TS := zn_in 344 (by decide +kernel) rfl
theorem zw_345 : Cond.instanceMethod ⟨"SurrogateTree$Table", "setWeights", "(I)V"⟩ ∈ zn_TS := zn_in 345 (by decide +kernel) rfl
theorem zw_346 : Cond.selects "SurrogateTree$Table" ⟨"SurrogateTree$Table", "setWeights", "(I)V"⟩ ⟨"SurrogateTree$Table", "setWeights", "(I)V"⟩ ∈ zn_TS := zn_in 346 (by decide +kernel) rfl
theorem zw_347 : Cond.code ⟨"SurrogateTree$Table", "setWeights", "(I)V"⟩ prog_11_method_4_code 3 none ∈ zn_TS := zn_in 347 (by decide +kernel) rfl
theorem zw_348 : Cond.methodLink "SurrogateTree" 93 ⟨"SurrogateTree$Ballot", "clear", "()V"⟩ ∈ zn_TS := zn_in 348 (by decide +kernel) rfl
theorem zw_349 : Cond.instanceMethod ⟨"SurrogateTree$Ballot", "clear", "()V"⟩ ∈ zn_TS := zn_in 349 (by decide +kernel) rfl
theorem zw_350 : Cond.selects "SurrogateTree$Ballot" ⟨"SurrogateTree$Ballot", "clear", "()V"⟩ ⟨"SurrogateTree$Ballot", "clear", "()V"⟩ ∈ zn_TS := zn_in 350 (by decide +kernel) rfl
theorem zw_351 : Cond.code ⟨"SurrogateTree$Ballot", "clear", "()V"⟩ prog_2_method_2_code 3 none ∈ zn_TS := zn_in 351 (by decide +kernel) rfl
theorem zw_352 : Cond.methodLink "SurrogateTreeLaw" 18 ⟨"SurrogateTree", "begin", "(III)Z"⟩ ∈ zn_TS := zn_in 352 (by decide +kernel) rfl
theorem zw_353 : Cond.instanceMethod ⟨"SurrogateTree", "begin", "(III)Z"⟩ ∈ zn_TS := zn_in 353 (by decide +kernel) rfl
theorem zw_354 : Cond.selects "SurrogateTree" ⟨"SurrogateTree", "begin", "(III)Z"⟩ ⟨"SurrogateTree", "begin", "(III)Z"⟩ ∈ zn_TS := zn_in 354 (by decide +kernel) rfl
theorem zw_355 : Cond.code ⟨"SurrogateTree", "begin", "(III)Z"⟩ prog_1_method_3_code 4 (some .boolean) ∈ zn_TS := zn_in 355 (by decide +kernel) rfl
theorem zw_356 : Cond.methodLink "SurrogateTreeLaw" 25 ⟨"SurrogateTree", "bag", "(J)I"⟩ ∈ zn_TS := zn_in 356 (by decide +kernel) rfl
theorem zw_357 : Cond.instanceMethod ⟨"SurrogateTree", "bag", "(J)I"⟩ ∈ zn_TS := zn_in 357 (by decide +kernel) rfl
theorem zw_358 : Cond.selects "SurrogateTree" ⟨"SurrogateTree", "bag", "(J)I"⟩ ⟨"SurrogateTree", "bag", "(J)I"⟩ ∈ zn_TS := zn_in 358 (by decide +kernel) rfl
theorem zw_359 : Cond.code ⟨"SurrogateTree", "bag", "(J)I"⟩ prog_1_method_4_code 3 (some .int) ∈ zn_TS := zn_in 359 (by decide +kernel) rfl
theorem zw_360 : Cond.methodLink "SurrogateTree" 96 ⟨"SurrogateTree$Table", "draw", "(J)V"⟩ ∈ zn_TS := zn_in 360 (by decide +kernel) rfl
theorem zw_361 : Cond.instanceMethod ⟨"SurrogateTree$Table", "draw", "(J)V"⟩ ∈ zn_TS := zn_in 361 (by decide +kernel) rfl
theorem zw_362 : Cond.selects "SurrogateTree$Table" ⟨"SurrogateTree$Table", "draw", "(J)V"⟩ ⟨"SurrogateTree$Table", "draw", "(J)V"⟩ ∈ zn_TS := zn_in 362 (by decide +kernel) rfl
theorem zw_363 : Cond.code ⟨"SurrogateTree$Table", "draw", "(J)V"⟩ prog_11_method_5_code 8 none ∈ zn_TS := zn_in 363 (by decide +kernel) rfl
theorem zw_364 : Cond.methodLink "SurrogateTree$Table" 27 ⟨"SurrogateTree$Table", "setWeights", "(I)V"⟩ ∈ zn_TS := zn_in 364 (by decide +kernel) rfl
theorem zw_365 : Cond.methodLink "SurrogateTree$Table" 31 ⟨"SurrogateTree$Table", "isFair", "(I)Z"⟩ ∈ zn_TS := zn_in 365 (by decide +kernel) rfl
theorem zw_367 : Cond.instanceMethod ⟨"SurrogateTree$Table", "isFair", "(I)Z"⟩ ∈ zn_TS := zn_in 367 (by decide +kernel) rfl
theorem zw_368 : Cond.code ⟨"SurrogateTree$Table", "isFair", "(I)Z"⟩ prog_11_method_6_code 2 (some .boolean) ∈ zn_TS := zn_in 368 (by decide +kernel) rfl
theorem zw_369 : Cond.constantLong "SurrogateTree$Table" 35 7391840562913847605 ∈ zn_TS := zn_in 369 (by decide +kernel) rfl
theorem zw_370 : Cond.constantLong "SurrogateTree$Table" 37 1027 ∈ zn_TS := zn_in 370 (by decide +kernel) rfl
theorem zw_371 : Cond.methodLink "SurrogateTree" 104 ⟨"java/lang/Integer", "bitCount", "(I)I"⟩ ∈ zn_TS := zn_in 371 (by decide +kernel) rfl
theorem zw_372 : Cond.static ⟨"java/lang/Integer", "bitCount", "(I)I"⟩ ∈ zn_TS := zn_in 372 (by decide +kernel) rfl
theorem zw_373 : Cond.code ⟨"java/lang/Integer", "bitCount", "(I)I"⟩ prog_14_method_49_code 1 (some .int) ∈ zn_TS := zn_in 373 (by decide +kernel) rfl
theorem zw_374 : Cond.constant "java/lang/Integer" 265 1431655765 ∈ zn_TS := zn_in 374 (by decide +kernel) rfl
theorem zw_375 : Cond.constant "java/lang/Integer" 266 858993459 ∈ zn_TS := zn_in 375 (by decide +kernel) rfl
theorem zw_376 : Cond.constant "java/lang/Integer" 267 252645135 ∈ zn_TS := zn_in 376 (by decide +kernel) rfl
theorem zw_377 : Cond.methodLink "SurrogateTreeLaw" 30 ⟨"SurrogateTree", "even", "()V"⟩ ∈ zn_TS := zn_in 377 (by decide +kernel) rfl
theorem zw_378 : Cond.instanceMethod ⟨"SurrogateTree", "even", "()V"⟩ ∈ zn_TS := zn_in 378 (by decide +kernel) rfl
theorem zw_379 : Cond.selects "SurrogateTree" ⟨"SurrogateTree", "even", "()V"⟩ ⟨"SurrogateTree", "even", "()V"⟩ ∈ zn_TS := zn_in 379 (by decide +kernel) rfl
theorem zw_380 : Cond.code ⟨"SurrogateTree", "even", "()V"⟩ prog_1_method_5_code 1 none ∈ zn_TS := zn_in 380 (by decide +kernel) rfl
theorem zw_381 : Cond.methodLink "SurrogateTreeLaw" 34 ⟨"SurrogateTree", "weight", "(I)I"⟩ ∈ zn_TS := zn_in 381 (by decide +kernel) rfl
theorem zw_382 : Cond.instanceMethod ⟨"SurrogateTree", "weight", "(I)I"⟩ ∈ zn_TS := zn_in 382 (by decide +kernel) rfl
theorem zw_383 : Cond.selects "SurrogateTree" ⟨"SurrogateTree", "weight", "(I)I"⟩ ⟨"SurrogateTree", "weight", "(I)I"⟩ ∈ zn_TS := zn_in 383 (by decide +kernel) rfl
theorem zw_384 : Cond.code ⟨"SurrogateTree", "weight", "(I)I"⟩ prog_1_method_6_code 2 (some .int) ∈ zn_TS := zn_in 384 (by decide +kernel) rfl
theorem zw_385 : Cond.methodLink "SurrogateTree" 110 ⟨"SurrogateTree$Table", "has", "(I)Z"⟩ ∈ zn_TS := zn_in 385 (by decide +kernel) rfl
theorem zw_386 : Cond.instanceMethod ⟨"SurrogateTree$Table", "has", "(I)Z"⟩ ∈ zn_TS := zn_in 386 (by decide +kernel) rfl
theorem zw_387 : Cond.selects "SurrogateTree$Table" ⟨"SurrogateTree$Table", "has", "(I)Z"⟩ ⟨"SurrogateTree$Table", "has", "(I)Z"⟩ ∈ zn_TS := zn_in 387 (by decide +kernel) rfl
theorem zw_388 : Cond.code ⟨"SurrogateTree$Table", "has", "(I)Z"⟩ prog_11_method_2_code 2 (some .boolean) ∈ zn_TS := zn_in 388 (by decide +kernel) rfl
theorem zw_389 : Cond.methodLink "SurrogateTreeLaw" 39 ⟨"SurrogateTree", "grow", "(I)I"⟩ ∈ zn_TS := zn_in 389 (by decide +kernel) rfl
theorem zw_390 : Cond.instanceMethod ⟨"SurrogateTree", "grow", "(I)I"⟩ ∈ zn_TS := zn_in 390 (by decide +kernel) rfl
theorem zw_391 : Cond.selects "SurrogateTree" ⟨"SurrogateTree", "grow", "(I)I"⟩ ⟨"SurrogateTree", "grow", "(I)I"⟩ ∈ zn_TS := zn_in 391 (by decide +kernel) rfl
theorem zw_392 : Cond.code ⟨"SurrogateTree", "grow", "(I)I"⟩ prog_1_method_7_code 5 (some .int) ∈ zn_TS := zn_in 392 (by decide +kernel) rfl
theorem zw_393 : Cond.methodLink "SurrogateTree" 116 ⟨"SurrogateTree$Shape", "firstWaiting", "()I"⟩ ∈ zn_TS := zn_in 393 (by decide +kernel) rfl
theorem zw_394 : Cond.instanceMethod ⟨"SurrogateTree$Shape", "firstWaiting", "()I"⟩ ∈ zn_TS := zn_in 394 (by decide +kernel) rfl
theorem zw_395 : Cond.selects "SurrogateTree$Shape" ⟨"SurrogateTree$Shape", "firstWaiting", "()I"⟩ ⟨"SurrogateTree$Shape", "firstWaiting", "()I"⟩ ∈ zn_TS := zn_in 395 (by decide +kernel) rfl
theorem zw_396 : Cond.code ⟨"SurrogateTree$Shape", "firstWaiting", "()I"⟩ prog_7_method_4_code 2 (some .int) ∈ zn_TS := zn_in 396 (by decide +kernel) rfl
theorem zw_397 : Cond.methodLink "SurrogateTree" 119 ⟨"SurrogateTree", "makeTurn", "(I)V"⟩ ∈ zn_TS := zn_in 397 (by decide +kernel) rfl
theorem zw_399 : Cond.instanceMethod ⟨"SurrogateTree", "makeTurn", "(I)V"⟩ ∈ zn_TS := zn_in 399 (by decide +kernel) rfl
theorem zw_400 : Cond.code ⟨"SurrogateTree", "makeTurn", "(I)V"⟩ prog_1_method_25_code 5 none ∈ zn_TS := zn_in 400 (by decide +kernel) rfl
theorem zw_401 : Cond.methodLink "SurrogateTree" 222 ⟨"SurrogateTree$SplitSearch", "findBest", "(LSurrogateTree$Table;LSurrogateTree$Node;II)Z"⟩ ∈ zn_TS := zn_in 401 (by decide +kernel) rfl
theorem zw_402 : Cond.instanceMethod ⟨"SurrogateTree$SplitSearch", "findBest", "(LSurrogateTree$Table;LSurrogateTree$Node;II)Z"⟩ ∈ zn_TS := zn_in 402 (by decide +kernel) rfl
theorem zw_403 : Cond.selects "SurrogateTree$SplitSearch" ⟨"SurrogateTree$SplitSearch", "findBest", "(LSurrogateTree$Table;LSurrogateTree$Node;II)Z"⟩ ⟨"SurrogateTree$SplitSearch", "findBest", "(LSurrogateTree$Table;LSurrogateTree$Node;II)Z"⟩ ∈ zn_TS := zn_in 403 (by decide +kernel) rfl
theorem zw_404 : Cond.code ⟨"SurrogateTree$SplitSearch", "findBest", "(LSurrogateTree$Table;LSurrogateTree$Node;II)Z"⟩ prog_8_method_2_code 8 (some .boolean) ∈ zn_TS := zn_in 404 (by decide +kernel) rfl
theorem zw_405 : Cond.methodLink "SurrogateTree$SplitSearch" 37 ⟨"SurrogateTree$Fraction", "set", "(JJ)V"⟩ ∈ zn_TS := zn_in 405 (by decide +kernel) rfl
theorem zw_406 : Cond.instanceMethod ⟨"SurrogateTree$Fraction", "set", "(JJ)V"⟩ ∈ zn_TS := zn_in 406 (by decide +kernel) rfl
theorem zw_407 : Cond.selects "SurrogateTree$Fraction" ⟨"SurrogateTree$Fraction", "set", "(JJ)V"⟩ ⟨"SurrogateTree$Fraction", "set", "(JJ)V"⟩ ∈ zn_TS := zn_in 407 (by decide +kernel) rfl
theorem zw_408 : Cond.code ⟨"SurrogateTree$Fraction", "set", "(JJ)V"⟩ prog_4_method_2_code 7 none ∈ zn_TS := zn_in 408 (by decide +kernel) rfl
theorem zw_409 : Cond.methodLink "SurrogateTree$Fraction" 16 ⟨"SurrogateTree$Fraction", "commonDivisor", "(JJ)J"⟩ ∈ zn_TS := zn_in 409 (by decide +kernel) rfl
theorem zw_410 : Cond.static ⟨"SurrogateTree$Fraction", "commonDivisor", "(JJ)J"⟩ ∈ zn_TS := zn_in 410 (by decide +kernel) rfl
theorem zw_411 : Cond.code ⟨"SurrogateTree$Fraction", "commonDivisor", "(JJ)J"⟩ prog_4_method_5_code 11 (some .long) ∈ zn_TS := zn_in 411 (by decide +kernel) rfl
theorem zw_412 : Cond.methodLink "SurrogateTree$SplitSearch" 45 ⟨"SurrogateTree$Table", "rowsPresent", "(II)I"⟩ ∈ zn_TS := zn_in 412 (by decide +kernel) rfl
theorem zw_413 : Cond.instanceMethod ⟨"SurrogateTree$Table", "rowsPresent", "(II)I"⟩ ∈ zn_TS := zn_in 413 (by decide +kernel) rfl
theorem zw_414 : Cond.selects "SurrogateTree$Table" ⟨"SurrogateTree$Table", "rowsPresent", "(II)I"⟩ ⟨"SurrogateTree$Table", "rowsPresent", "(II)I"⟩ ∈ zn_TS := zn_in 414 (by decide +kernel) rfl
theorem zw_415 : Cond.code ⟨"SurrogateTree$Table", "rowsPresent", "(II)I"⟩ prog_11_method_10_code 5 (some .int) ∈ zn_TS := zn_in 415 (by decide +kernel) rfl
theorem zw_416 : Cond.constant "SurrogateTree$Table" 43 (-2147483648) ∈ zn_TS := zn_in 416 (by decide +kernel) rfl
theorem zw_417 : Cond.methodLink "SurrogateTree$SplitSearch" 51 ⟨"SurrogateTree$Limits", "collect", "(LSurrogateTree$Table;II)V"⟩ ∈ zn_TS := zn_in 417 (by decide +kernel) rfl
theorem zw_418 : Cond.instanceMethod ⟨"SurrogateTree$Limits", "collect", "(LSurrogateTree$Table;II)V"⟩ ∈ zn_TS := zn_in 418 (by decide +kernel) rfl
theorem zw_419 : Cond.selects "SurrogateTree$Limits" ⟨"SurrogateTree$Limits", "collect", "(LSurrogateTree$Table;II)V"⟩ ⟨"SurrogateTree$Limits", "collect", "(LSurrogateTree$Table;II)V"⟩ ∈ zn_TS := zn_in 419 (by decide +kernel) rfl
theorem zw_420 : Cond.code ⟨"SurrogateTree$Limits", "collect", "(LSurrogateTree$Table;II)V"⟩ prog_5_method_2_code 5 none ∈ zn_TS := zn_in 420 (by decide +kernel) rfl
theorem zw_421 : Cond.methodLink "SurrogateTree$Limits" 24 ⟨"SurrogateTree$Table", "contains", "(II)Z"⟩ ∈ zn_TS := zn_in 421 (by decide +kernel) rfl
theorem zw_422 : Cond.methodLink "SurrogateTree$Limits" 32 ⟨"SurrogateTree$Limits", "insert", "(I)V"⟩ ∈ zn_TS := zn_in 422 (by decide +kernel) rfl
theorem zw_424 : Cond.instanceMethod ⟨"SurrogateTree$Limits", "insert", "(I)V"⟩ ∈ zn_TS := zn_in 424 (by decide +kernel) rfl
theorem zw_425 : Cond.code ⟨"SurrogateTree$Limits", "insert", "(I)V"⟩ prog_5_method_3_code 4 none ∈ zn_TS := zn_in 425 (by decide +kernel) rfl
theorem zw_426 : Cond.methodLink "SurrogateTree$SplitSearch" 55 ⟨"SurrogateTree$Limits", "count", "()I"⟩ ∈ zn_TS := zn_in 426 (by decide +kernel) rfl
theorem zw_427 : Cond.instanceMethod ⟨"SurrogateTree$Limits", "count", "()I"⟩ ∈ zn_TS := zn_in 427 (by decide +kernel) rfl
theorem zw_428 : Cond.selects "SurrogateTree$Limits" ⟨"SurrogateTree$Limits", "count", "()I"⟩ ⟨"SurrogateTree$Limits", "count", "()I"⟩ ∈ zn_TS := zn_in 428 (by decide +kernel) rfl
theorem zw_429 : Cond.code ⟨"SurrogateTree$Limits", "count", "()I"⟩ prog_5_method_4_code 1 (some .int) ∈ zn_TS := zn_in 429 (by decide +kernel) rfl
theorem zw_430 : Cond.methodLink "SurrogateTree$Limits" 36 ⟨"java/lang/Math", "max", "(II)I"⟩ ∈ zn_TS := zn_in 430 (by decide +kernel) rfl
theorem zw_431 : Cond.static ⟨"java/lang/Math", "max", "(II)I"⟩ ∈ zn_TS := zn_in 431 (by decide +kernel) rfl
theorem zw_432 : Cond.code ⟨"java/lang/Math", "max", "(II)I"⟩ prog_15_method_65_code 2 (some .int) ∈ zn_TS := zn_in 432 (by decide +kernel) rfl
theorem zw_433 : Cond.methodLink "SurrogateTree$SplitSearch" 59 ⟨"SurrogateTree$Limits", "at", "(I)I"⟩ ∈ zn_TS := zn_in 433 (by decide +kernel) rfl
theorem zw_434 : Cond.instanceMethod ⟨"SurrogateTree$Limits", "at", "(I)I"⟩ ∈ zn_TS := zn_in 434 (by decide +kernel) rfl
theorem zw_435 : Cond.selects "SurrogateTree$Limits" ⟨"SurrogateTree$Limits", "at", "(I)I"⟩ ⟨"SurrogateTree$Limits", "at", "(I)I"⟩ ∈ zn_TS := zn_in 435 (by decide +kernel) rfl
theorem zw_436 : Cond.code ⟨"SurrogateTree$Limits", "at", "(I)I"⟩ prog_5_method_5_code 2 (some .int) ∈ zn_TS := zn_in 436 (by decide +kernel) rfl
theorem zw_437 : Cond.constantLong "SurrogateTree$Limits" 42 2 ∈ zn_TS := zn_in 437 (by decide +kernel) rfl
theorem zw_438 : Cond.methodLink "SurrogateTree$Limits" 44 ⟨"java/lang/Math", "floorDiv", "(JJ)J"⟩ ∈ zn_TS := zn_in 438 (by decide +kernel) rfl
theorem zw_439 : Cond.static ⟨"java/lang/Math", "floorDiv", "(JJ)J"⟩ ∈ zn_TS := zn_in 439 (by decide +kernel) rfl
theorem zw_440 : Cond.code ⟨"java/lang/Math", "floorDiv", "(JJ)J"⟩ prog_15_method_49_code 6 (some .long) ∈ zn_TS := zn_in 440 (by decide +kernel) rfl
theorem zw_441 : Cond.methodLink "SurrogateTree$SplitSearch" 63 ⟨"SurrogateTree$Table", "rowsUpTo", "(III)I"⟩ ∈ zn_TS := zn_in 441 (by decide +kernel) rfl
theorem zw_442 : Cond.instanceMethod ⟨"SurrogateTree$Table", "rowsUpTo", "(III)I"⟩ ∈ zn_TS := zn_in 442 (by decide +kernel) rfl
theorem zw_443 : Cond.selects "SurrogateTree$Table" ⟨"SurrogateTree$Table", "rowsUpTo", "(III)I"⟩ ⟨"SurrogateTree$Table", "rowsUpTo", "(III)I"⟩ ∈ zn_TS := zn_in 443 (by decide +kernel) rfl
theorem zw_444 : Cond.code ⟨"SurrogateTree$Table", "rowsUpTo", "(III)I"⟩ prog_11_method_11_code 6 (some .int) ∈ zn_TS := zn_in 444 (by decide +kernel) rfl
theorem zw_445 : Cond.methodLink "SurrogateTree$SplitSearch" 67 ⟨"SurrogateTree$SplitSearch", "weighSides", "(LSurrogateTree$Table;II)V"⟩ ∈ zn_TS := zn_in 445 (by decide +kernel) rfl
theorem zw_447 : Cond.instanceMethod ⟨"SurrogateTree$SplitSearch", "weighSides", "(LSurrogateTree$Table;II)V"⟩ ∈ zn_TS := zn_in 447 (by decide +kernel) rfl
theorem zw_448 : Cond.code ⟨"SurrogateTree$SplitSearch", "weighSides", "(LSurrogateTree$Table;II)V"⟩ prog_8_method_3_code 6 none ∈ zn_TS := zn_in 448 (by decide +kernel) rfl
theorem zw_449 : Cond.methodLink "SurrogateTree$SplitSearch" 88 ⟨"SurrogateTree$Table", "rowsInClass", "(II)I"⟩ ∈ zn_TS := zn_in 449 (by decide +kernel) rfl
theorem zw_450 : Cond.methodLink "SurrogateTree$SplitSearch" 91 ⟨"SurrogateTree$Table", "weightOf", "(I)I"⟩ ∈ zn_TS := zn_in 450 (by decide +kernel) rfl
theorem zw_451 : Cond.methodLink "SurrogateTree$SplitSearch" 76 ⟨"SurrogateTree$SplitSearch", "measure", "(I)V"⟩ ∈ zn_TS := zn_in 451 (by decide +kernel) rfl
theorem zw_453 : Cond.instanceMethod ⟨"SurrogateTree$SplitSearch", "measure", "(I)V"⟩ ∈ zn_TS := zn_in 453 (by decide +kernel) rfl
theorem zw_454 : Cond.code ⟨"SurrogateTree$SplitSearch", "measure", "(I)V"⟩ prog_8_method_5_code 2 none ∈ zn_TS := zn_in 454 (by decide +kernel) rfl
theorem zw_455 : Cond.methodLink "SurrogateTree$SplitSearch" 112 ⟨"SurrogateTree$SplitSearch", "measureSquares", "()V"⟩ ∈ zn_TS := zn_in 455 (by decide +kernel) rfl
theorem zw_457 : Cond.instanceMethod ⟨"SurrogateTree$SplitSearch", "measureSquares", "()V"⟩ ∈ zn_TS := zn_in 457 (by decide +kernel) rfl
theorem zw_458 : Cond.code ⟨"SurrogateTree$SplitSearch", "measureSquares", "()V"⟩ prog_8_method_6_code 13 none ∈ zn_TS := zn_in 458 (by decide +kernel) rfl
theorem zw_459 : Cond.methodLink "SurrogateTree$SplitSearch" 115 ⟨"SurrogateTree$SplitSearch", "measureMajorities", "()V"⟩ ∈ zn_TS := zn_in 459 (by decide +kernel) rfl
theorem zw_461 : Cond.instanceMethod ⟨"SurrogateTree$SplitSearch", "measureMajorities", "()V"⟩ ∈ zn_TS := zn_in 461 (by decide +kernel) rfl
theorem zw_462 : Cond.code ⟨"SurrogateTree$SplitSearch", "measureMajorities", "()V"⟩ prog_8_method_7_code 5 none ∈ zn_TS := zn_in 462 (by decide +kernel) rfl
theorem zw_463 : Cond.methodLink "SurrogateTree$SplitSearch" 121 ⟨"java/lang/Math", "max", "(II)I"⟩ ∈ zn_TS := zn_in 463 (by decide +kernel) rfl
theorem zw_464 : Cond.methodLink "SurrogateTree$SplitSearch" 118 ⟨"SurrogateTree$SplitSearch", "measureDistance", "()V"⟩ ∈ zn_TS := zn_in 464 (by decide +kernel) rfl
theorem zw_466 : Cond.instanceMethod ⟨"SurrogateTree$SplitSearch", "measureDistance", "()V"⟩ ∈ zn_TS := zn_in 466 (by decide +kernel) rfl
theorem zw_467 : Cond.code ⟨"SurrogateTree$SplitSearch", "measureDistance", "()V"⟩ prog_8_method_8_code 5 none ∈ zn_TS := zn_in 467 (by decide +kernel) rfl
theorem zw_468 : Cond.methodLink "SurrogateTree$SplitSearch" 126 ⟨"java/lang/Math", "abs", "(I)I"⟩ ∈ zn_TS := zn_in 468 (by decide +kernel) rfl
theorem zw_469 : Cond.static ⟨"java/lang/Math", "abs", "(I)I"⟩ ∈ zn_TS := zn_in 469 (by decide +kernel) rfl
theorem zw_470 : Cond.code ⟨"java/lang/Math", "abs", "(I)I"⟩ prog_15_method_59_code 1 (some .int) ∈ zn_TS := zn_in 470 (by decide +kernel) rfl
theorem zw_471 : Cond.methodLink "SurrogateTree$SplitSearch" 80 ⟨"SurrogateTree$SplitSearch", "offer", "(LSurrogateTree$Node;II)V"⟩ ∈ zn_TS := zn_in 471 (by decide +kernel) rfl
theorem zw_473 : Cond.instanceMethod ⟨"SurrogateTree$SplitSearch", "offer", "(LSurrogateTree$Node;II)V"⟩ ∈ zn_TS := zn_in 473 (by decide +kernel) rfl
theorem zw_474 : Cond.code ⟨"SurrogateTree$SplitSearch", "offer", "(LSurrogateTree$Node;II)V"⟩ prog_8_method_4_code 4 none ∈ zn_TS := zn_in 474 (by decide +kernel) rfl
theorem zw_475 : Cond.methodLink "SurrogateTree$SplitSearch" 94 ⟨"SurrogateTree$Fraction", "isMoreThan", "(LSurrogateTree$Fraction;)Z"⟩ ∈ zn_TS := zn_in 475 (by decide +kernel) rfl
theorem zw_476 : Cond.instanceMethod ⟨"SurrogateTree$Fraction", "isMoreThan", "(LSurrogateTree$Fraction;)Z"⟩ ∈ zn_TS := zn_in 476 (by decide +kernel) rfl
theorem zw_477 : Cond.selects "SurrogateTree$Fraction" ⟨"SurrogateTree$Fraction", "isMoreThan", "(LSurrogateTree$Fraction;)Z"⟩ ⟨"SurrogateTree$Fraction", "isMoreThan", "(LSurrogateTree$Fraction;)Z"⟩ ∈ zn_TS := zn_in 477 (by decide +kernel) rfl
theorem zw_478 : Cond.code ⟨"SurrogateTree$Fraction", "isMoreThan", "(LSurrogateTree$Fraction;)Z"⟩ prog_4_method_4_code 2 (some .boolean) ∈ zn_TS := zn_in 478 (by decide +kernel) rfl
theorem zw_479 : Cond.methodLink "SurrogateTree$SplitSearch" 98 ⟨"SurrogateTree$Fraction", "copyFrom", "(LSurrogateTree$Fraction;)V"⟩ ∈ zn_TS := zn_in 479 (by decide +kernel) rfl
theorem zw_480 : Cond.instanceMethod ⟨"SurrogateTree$Fraction", "copyFrom", "(LSurrogateTree$Fraction;)V"⟩ ∈ zn_TS := zn_in 480 (by decide +kernel) rfl
theorem zw_481 : Cond.selects "SurrogateTree$Fraction" ⟨"SurrogateTree$Fraction", "copyFrom", "(LSurrogateTree$Fraction;)V"⟩ ⟨"SurrogateTree$Fraction", "copyFrom", "(LSurrogateTree$Fraction;)V"⟩ ∈ zn_TS := zn_in 481 (by decide +kernel) rfl
theorem zw_482 : Cond.code ⟨"SurrogateTree$Fraction", "copyFrom", "(LSurrogateTree$Fraction;)V"⟩ prog_4_method_3_code 2 none ∈ zn_TS := zn_in 482 (by decide +kernel) rfl
theorem zw_483 : Cond.methodLink "SurrogateTree" 226 ⟨"SurrogateTree$StandInSearch", "findFor", "(LSurrogateTree$Table;LSurrogateTree$Node;)V"⟩ ∈ zn_TS := zn_in 483 (by decide +kernel) rfl
theorem zw_484 : Cond.instanceMethod ⟨"SurrogateTree$StandInSearch", "findFor", "(LSurrogateTree$Table;LSurrogateTree$Node;)V"⟩ ∈ zn_TS := zn_in 484 (by decide +kernel) rfl
theorem zw_485 : Cond.selects "SurrogateTree$StandInSearch" ⟨"SurrogateTree$StandInSearch", "findFor", "(LSurrogateTree$Table;LSurrogateTree$Node;)V"⟩ ⟨"SurrogateTree$StandInSearch", "findFor", "(LSurrogateTree$Table;LSurrogateTree$Node;)V"⟩ ∈ zn_TS := zn_in 485 (by decide +kernel) rfl
theorem zw_486 : Cond.code ⟨"SurrogateTree$StandInSearch", "findFor", "(LSurrogateTree$Table;LSurrogateTree$Node;)V"⟩ prog_10_method_2_code 4 none ∈ zn_TS := zn_in 486 (by decide +kernel) rfl
theorem zw_487 : Cond.methodLink "SurrogateTree$StandInSearch" 34 ⟨"SurrogateTree$StandInSearch", "findAt", "(LSurrogateTree$Table;LSurrogateTree$Node;I)Z"⟩ ∈ zn_TS := zn_in 487 (by decide +kernel) rfl
theorem zw_489 : Cond.instanceMethod ⟨"SurrogateTree$StandInSearch", "findAt", "(LSurrogateTree$Table;LSurrogateTree$Node;I)Z"⟩ ∈ zn_TS := zn_in 489 (by decide +kernel) rfl
theorem zw_490 : Cond.code ⟨"SurrogateTree$StandInSearch", "findAt", "(LSurrogateTree$Table;LSurrogateTree$Node;I)Z"⟩ prog_10_method_3_code 13 (some .boolean) ∈ zn_TS := zn_in 490 (by decide +kernel) rfl
theorem zw_491 : Cond.methodLink "SurrogateTree$StandInSearch" 45 ⟨"SurrogateTree$Table", "rowsPresent", "(II)I"⟩ ∈ zn_TS := zn_in 491 (by decide +kernel) rfl
theorem zw_492 : Cond.methodLink "SurrogateTree$StandInSearch" 54 ⟨"SurrogateTree$Table", "rowsUpTo", "(III)I"⟩ ∈ zn_TS := zn_in 492 (by decide +kernel) rfl
theorem zw_493 : Cond.methodLink "SurrogateTree$StandInSearch" 58 ⟨"SurrogateTree$Table", "weightOf", "(I)I"⟩ ∈ zn_TS := zn_in 493 (by decide +kernel) rfl
theorem zw_494 : Cond.methodLink "SurrogateTree$StandInSearch" 62 ⟨"java/lang/Math", "max", "(II)I"⟩ ∈ zn_TS := zn_in 494 (by decide +kernel) rfl
theorem zw_495 : Cond.methodLink "SurrogateTree$StandInSearch" 71 ⟨"SurrogateTree$Limits", "collect", "(LSurrogateTree$Table;II)V"⟩ ∈ zn_TS := zn_in 495 (by decide +kernel) rfl
theorem zw_496 : Cond.methodLink "SurrogateTree$StandInSearch" 75 ⟨"SurrogateTree$Limits", "count", "()I"⟩ ∈ zn_TS := zn_in 496 (by decide +kernel) rfl
theorem zw_497 : Cond.methodLink "SurrogateTree$StandInSearch" 79 ⟨"SurrogateTree$Limits", "at", "(I)I"⟩ ∈ zn_TS := zn_in 497 (by decide +kernel) rfl
theorem zw_498 : Cond.methodLink "SurrogateTree$StandInSearch" 82 ⟨"SurrogateTree$StandInSearch", "offer", "(IZI)V"⟩ ∈ zn_TS := zn_in 498 (by decide +kernel) rfl
theorem zw_500 : Cond.instanceMethod ⟨"SurrogateTree$StandInSearch", "offer", "(IZI)V"⟩ ∈ zn_TS := zn_in 500 (by decide +kernel) rfl
theorem zw_501 : Cond.code ⟨"SurrogateTree$StandInSearch", "offer", "(IZI)V"⟩ prog_10_method_4_code 4 none ∈ zn_TS := zn_in 501 (by decide +kernel) rfl
theorem zw_502 : Cond.methodLink "SurrogateTree$StandInSearch" 38 ⟨"SurrogateTree$Node", "addStandIn", "(LSurrogateTree$StandIn;)V"⟩ ∈ zn_TS := zn_in 502 (by decide +kernel) rfl
theorem zw_503 : Cond.instanceMethod ⟨"SurrogateTree$Node", "addStandIn", "(LSurrogateTree$StandIn;)V"⟩ ∈ zn_TS := zn_in 503 (by decide +kernel) rfl
theorem zw_504 : Cond.selects "SurrogateTree$Node" ⟨"SurrogateTree$Node", "addStandIn", "(LSurrogateTree$StandIn;)V"⟩ ⟨"SurrogateTree$Node", "addStandIn", "(LSurrogateTree$StandIn;)V"⟩ ∈ zn_TS := zn_in 504 (by decide +kernel) rfl
theorem zw_505 : Cond.code ⟨"SurrogateTree$Node", "addStandIn", "(LSurrogateTree$StandIn;)V"⟩ prog_6_method_4_code 3 none ∈ zn_TS := zn_in 505 (by decide +kernel) rfl
theorem zw_506 : Cond.methodLink "SurrogateTree$Node" 51 ⟨"SurrogateTree$StandIn", "copyFrom", "(LSurrogateTree$StandIn;)V"⟩ ∈ zn_TS := zn_in 506 (by decide +kernel) rfl
theorem zw_507 : Cond.instanceMethod ⟨"SurrogateTree$StandIn", "copyFrom", "(LSurrogateTree$StandIn;)V"⟩ ∈ zn_TS := zn_in 507 (by decide +kernel) rfl
theorem zw_508 : Cond.selects "SurrogateTree$StandIn" ⟨"SurrogateTree$StandIn", "copyFrom", "(LSurrogateTree$StandIn;)V"⟩ ⟨"SurrogateTree$StandIn", "copyFrom", "(LSurrogateTree$StandIn;)V"⟩ ∈ zn_TS := zn_in 508 (by decide +kernel) rfl
theorem zw_509 : Cond.code ⟨"SurrogateTree$StandIn", "copyFrom", "(LSurrogateTree$StandIn;)V"⟩ prog_9_method_2_code 2 none ∈ zn_TS := zn_in 509 (by decide +kernel) rfl
theorem zw_510 : Cond.methodLink "SurrogateTree" 230 ⟨"SurrogateTree$Node", "rowsGoingLeft", "(LSurrogateTree$Table;)I"⟩ ∈ zn_TS := zn_in 510 (by decide +kernel) rfl
theorem zw_511 : Cond.instanceMethod ⟨"SurrogateTree$Node", "rowsGoingLeft", "(LSurrogateTree$Table;)I"⟩ ∈ zn_TS := zn_in 511 (by decide +kernel) rfl
theorem zw_512 : Cond.selects "SurrogateTree$Node" ⟨"SurrogateTree$Node", "rowsGoingLeft", "(LSurrogateTree$Table;)I"⟩ ⟨"SurrogateTree$Node", "rowsGoingLeft", "(LSurrogateTree$Table;)I"⟩ ∈ zn_TS := zn_in 512 (by decide +kernel) rfl
theorem zw_513 : Cond.code ⟨"SurrogateTree$Node", "rowsGoingLeft", "(LSurrogateTree$Table;)I"⟩ prog_6_method_6_code 4 (some .int) ∈ zn_TS := zn_in 513 (by decide +kernel) rfl
theorem zw_514 : Cond.methodLink "SurrogateTree$Node" 74 ⟨"SurrogateTree$Table", "contains", "(II)Z"⟩ ∈ zn_TS := zn_in 514 (by decide +kernel) rfl
theorem zw_515 : Cond.methodLink "SurrogateTree$Node" 82 ⟨"SurrogateTree$Node", "sendsLeft", "([I)Z"⟩ ∈ zn_TS := zn_in 515 (by decide +kernel) rfl
theorem zw_516 : Cond.instanceMethod ⟨"SurrogateTree$Node", "sendsLeft", "([I)Z"⟩ ∈ zn_TS := zn_in 516 (by decide +kernel) rfl
theorem zw_517 : Cond.selects "SurrogateTree$Node" ⟨"SurrogateTree$Node", "sendsLeft", "([I)Z"⟩ ⟨"SurrogateTree$Node", "sendsLeft", "([I)Z"⟩ ∈ zn_TS := zn_in 517 (by decide +kernel) rfl
theorem zw_518 : Cond.code ⟨"SurrogateTree$Node", "sendsLeft", "([I)Z"⟩ prog_6_method_5_code 4 (some .boolean) ∈ zn_TS := zn_in 518 (by decide +kernel) rfl
theorem zw_519 : Cond.constant "SurrogateTree$Node" 58 (-2147483648) ∈ zn_TS := zn_in 519 (by decide +kernel) rfl
theorem zw_520 : Cond.methodLink "SurrogateTree$Node" 63 ⟨"SurrogateTree$StandIn", "sendsLeft", "(I)Z"⟩ ∈ zn_TS := zn_in 520 (by decide +kernel) rfl
theorem zw_521 : Cond.instanceMethod ⟨"SurrogateTree$StandIn", "sendsLeft", "(I)Z"⟩ ∈ zn_TS := zn_in 521 (by decide +kernel) rfl
theorem zw_522 : Cond.selects "SurrogateTree$StandIn" ⟨"SurrogateTree$StandIn", "sendsLeft", "(I)Z"⟩ ⟨"SurrogateTree$StandIn", "sendsLeft", "(I)Z"⟩ ∈ zn_TS := zn_in 522 (by decide +kernel) rfl
theorem zw_523 : Cond.code ⟨"SurrogateTree$StandIn", "sendsLeft", "(I)Z"⟩ prog_9_method_3_code 2 (some .boolean) ∈ zn_TS := zn_in 523 (by decide +kernel) rfl
theorem zw_524 : Cond.methodLink "SurrogateTreeLaw" 43 ⟨"SurrogateTree", "kind", "(I)I"⟩ ∈ zn_TS := zn_in 524 (by decide +kernel) rfl
theorem zw_525 : Cond.instanceMethod ⟨"SurrogateTree", "kind", "(I)I"⟩ ∈ zn_TS := zn_in 525 (by decide +kernel) rfl
theorem zw_526 : Cond.selects "SurrogateTree" ⟨"SurrogateTree", "kind", "(I)I"⟩ ⟨"SurrogateTree", "kind", "(I)I"⟩ ∈ zn_TS := zn_in 526 (by decide +kernel) rfl
theorem zw_527 : Cond.code ⟨"SurrogateTree", "kind", "(I)I"⟩ prog_1_method_8_code 2 (some .int) ∈ zn_TS := zn_in 527 (by decide +kernel) rfl
theorem zw_528 : Cond.methodLink "SurrogateTree" 125 ⟨"SurrogateTree$Shape", "at", "(I)I"⟩ ∈ zn_TS := zn_in 528 (by decide +kernel) rfl
theorem zw_529 : Cond.instanceMethod ⟨"SurrogateTree$Shape", "at", "(I)I"⟩ ∈ zn_TS := zn_in 529 (by decide +kernel) rfl
theorem zw_530 : Cond.selects "SurrogateTree$Shape" ⟨"SurrogateTree$Shape", "at", "(I)I"⟩ ⟨"SurrogateTree$Shape", "at", "(I)I"⟩ ∈ zn_TS := zn_in 530 (by decide +kernel) rfl
theorem zw_531 : Cond.code ⟨"SurrogateTree$Shape", "at", "(I)I"⟩ prog_7_method_3_code 2 (some .int) ∈ zn_TS := zn_in 531 (by decide +kernel) rfl
theorem zw_532 : Cond.methodLink "SurrogateTreeLaw" 47 ⟨"SurrogateTree", "rule", "(II)I"⟩ ∈ zn_TS := zn_in 532 (by decide +kernel) rfl
theorem zw_533 : Cond.instanceMethod ⟨"SurrogateTree", "rule", "(II)I"⟩ ∈ zn_TS := zn_in 533 (by decide +kernel) rfl
theorem zw_534 : Cond.selects "SurrogateTree" ⟨"SurrogateTree", "rule", "(II)I"⟩ ⟨"SurrogateTree", "rule", "(II)I"⟩ ∈ zn_TS := zn_in 534 (by decide +kernel) rfl
theorem zw_535 : Cond.code ⟨"SurrogateTree", "rule", "(II)I"⟩ prog_1_method_9_code 4 (some .int) ∈ zn_TS := zn_in 535 (by decide +kernel) rfl
theorem zw_536 : Cond.methodLink "SurrogateTree" 131 ⟨"SurrogateTree$Node", "hasStandIn", "(I)Z"⟩ ∈ zn_TS := zn_in 536 (by decide +kernel) rfl
theorem zw_537 : Cond.instanceMethod ⟨"SurrogateTree$Node", "hasStandIn", "(I)Z"⟩ ∈ zn_TS := zn_in 537 (by decide +kernel) rfl
theorem zw_538 : Cond.selects "SurrogateTree$Node" ⟨"SurrogateTree$Node", "hasStandIn", "(I)Z"⟩ ⟨"SurrogateTree$Node", "hasStandIn", "(I)Z"⟩ ∈ zn_TS := zn_in 538 (by decide +kernel) rfl
theorem zw_539 : Cond.code ⟨"SurrogateTree$Node", "hasStandIn", "(I)Z"⟩ prog_6_method_3_code 2 (some .boolean) ∈ zn_TS := zn_in 539 (by decide +kernel) rfl
theorem zw_540 : Cond.methodLink "SurrogateTree" 138 ⟨"SurrogateTree$StandIn", "code", "()I"⟩ ∈ zn_TS := zn_in 540 (by decide +kernel) rfl
theorem zw_541 : Cond.instanceMethod ⟨"SurrogateTree$StandIn", "code", "()I"⟩ ∈ zn_TS := zn_in 541 (by decide +kernel) rfl
theorem zw_542 : Cond.selects "SurrogateTree$StandIn" ⟨"SurrogateTree$StandIn", "code", "()I"⟩ ⟨"SurrogateTree$StandIn", "code", "()I"⟩ ∈ zn_TS := zn_in 542 (by decide +kernel) rfl
theorem zw_543 : Cond.code ⟨"SurrogateTree$StandIn", "code", "()I"⟩ prog_9_method_4_code 1 (some .int) ∈ zn_TS := zn_in 543 (by decide +kernel) rfl
theorem zw_544 : Cond.methodLink "SurrogateTreeLaw" 52 ⟨"SurrogateTree", "threshold", "(II)I"⟩ ∈ zn_TS := zn_in 544 (by decide +kernel) rfl
theorem zw_545 : Cond.instanceMethod ⟨"SurrogateTree", "threshold", "(II)I"⟩ ∈ zn_TS := zn_in 545 (by decide +kernel) rfl
theorem zw_546 : Cond.selects "SurrogateTree" ⟨"SurrogateTree", "threshold", "(II)I"⟩ ⟨"SurrogateTree", "threshold", "(II)I"⟩ ∈ zn_TS := zn_in 546 (by decide +kernel) rfl
theorem zw_547 : Cond.code ⟨"SurrogateTree", "threshold", "(II)I"⟩ prog_1_method_10_code 4 (some .int) ∈ zn_TS := zn_in 547 (by decide +kernel) rfl
theorem zw_548 : Cond.methodLink "SurrogateTreeLaw" 56 ⟨"SurrogateTree", "gain", "(I)J"⟩ ∈ zn_TS := zn_in 548 (by decide +kernel) rfl
theorem zw_549 : Cond.instanceMethod ⟨"SurrogateTree", "gain", "(I)J"⟩ ∈ zn_TS := zn_in 549 (by decide +kernel) rfl
theorem zw_550 : Cond.selects "SurrogateTree" ⟨"SurrogateTree", "gain", "(I)J"⟩ ⟨"SurrogateTree", "gain", "(I)J"⟩ ∈ zn_TS := zn_in 550 (by decide +kernel) rfl
theorem zw_551 : Cond.code ⟨"SurrogateTree", "gain", "(I)J"⟩ prog_1_method_11_code 3 (some .long) ∈ zn_TS := zn_in 551 (by decide +kernel) rfl
theorem zw_552 : Cond.constantLong "SurrogateTree" 157 4096 ∈ zn_TS := zn_in 552 (by decide +kernel) rfl
theorem zw_553 : Cond.methodLink "SurrogateTreeLaw" 61 ⟨"SurrogateTree", "rowsOf", "(I)I"⟩ ∈ zn_TS := zn_in 553 (by decide +kernel) rfl
theorem zw_554 : Cond.instanceMethod ⟨"SurrogateTree", "rowsOf", "(I)I"⟩ ∈ zn_TS := zn_in 554 (by decide +kernel) rfl
theorem zw_555 : Cond.selects "SurrogateTree" ⟨"SurrogateTree", "rowsOf", "(I)I"⟩ ⟨"SurrogateTree", "rowsOf", "(I)I"⟩ ∈ zn_TS := zn_in 555 (by decide +kernel) rfl
theorem zw_556 : Cond.code ⟨"SurrogateTree", "rowsOf", "(I)I"⟩ prog_1_method_12_code 2 (some .int) ∈ zn_TS := zn_in 556 (by decide +kernel) rfl
theorem zw_557 : Cond.methodLink "SurrogateTreeLaw" 65 ⟨"SurrogateTree", "classOf", "(I)I"⟩ ∈ zn_TS := zn_in 557 (by decide +kernel) rfl
theorem zw_558 : Cond.instanceMethod ⟨"SurrogateTree", "classOf", "(I)I"⟩ ∈ zn_TS := zn_in 558 (by decide +kernel) rfl
theorem zw_559 : Cond.selects "SurrogateTree" ⟨"SurrogateTree", "classOf", "(I)I"⟩ ⟨"SurrogateTree", "classOf", "(I)I"⟩ ∈ zn_TS := zn_in 559 (by decide +kernel) rfl
theorem zw_560 : Cond.code ⟨"SurrogateTree", "classOf", "(I)I"⟩ prog_1_method_13_code 2 (some .int) ∈ zn_TS := zn_in 560 (by decide +kernel) rfl
theorem zw_561 : Cond.methodLink "SurrogateTreeLaw" 69 ⟨"SurrogateTree", "error", "(I)I"⟩ ∈ zn_TS := zn_in 561 (by decide +kernel) rfl
theorem zw_562 : Cond.instanceMethod ⟨"SurrogateTree", "error", "(I)I"⟩ ∈ zn_TS := zn_in 562 (by decide +kernel) rfl
theorem zw_563 : Cond.selects "SurrogateTree" ⟨"SurrogateTree", "error", "(I)I"⟩ ⟨"SurrogateTree", "error", "(I)I"⟩ ∈ zn_TS := zn_in 563 (by decide +kernel) rfl
theorem zw_564 : Cond.code ⟨"SurrogateTree", "error", "(I)I"⟩ prog_1_method_14_code 2 (some .int) ∈ zn_TS := zn_in 564 (by decide +kernel) rfl
theorem zw_565 : Cond.methodLink "SurrogateTreeLaw" 73 ⟨"SurrogateTree", "reach", "(III)I"⟩ ∈ zn_TS := zn_in 565 (by decide +kernel) rfl
theorem zw_566 : Cond.instanceMethod ⟨"SurrogateTree", "reach", "(III)I"⟩ ∈ zn_TS := zn_in 566 (by decide +kernel) rfl
theorem zw_567 : Cond.selects "SurrogateTree" ⟨"SurrogateTree", "reach", "(III)I"⟩ ⟨"SurrogateTree", "reach", "(III)I"⟩ ∈ zn_TS := zn_in 567 (by decide +kernel) rfl
theorem zw_568 : Cond.code ⟨"SurrogateTree", "reach", "(III)I"⟩ prog_1_method_15_code 4 (some .int) ∈ zn_TS := zn_in 568 (by decide +kernel) rfl
theorem zw_569 : Cond.methodLink "SurrogateTree" 171 ⟨"SurrogateTree", "endOf", "([I)I"⟩ ∈ zn_TS := zn_in 569 (by decide +kernel) rfl
theorem zw_571 : Cond.instanceMethod ⟨"SurrogateTree", "endOf", "([I)I"⟩ ∈ zn_TS := zn_in 571 (by decide +kernel) rfl
theorem zw_572 : Cond.code ⟨"SurrogateTree", "endOf", "([I)I"⟩ prog_1_method_26_code 4 (some .int) ∈ zn_TS := zn_in 572 (by decide +kernel) rfl
theorem zw_573 : Cond.methodLink "SurrogateTree" 234 ⟨"SurrogateTree$Node", "sendsLeft", "([I)Z"⟩ ∈ zn_TS := zn_in 573 (by decide +kernel) rfl
theorem zw_574 : Cond.methodLink "SurrogateTreeLaw" 78 ⟨"SurrogateTree", "cut", "(II)I"⟩ ∈ zn_TS := zn_in 574 (by decide +kernel) rfl
theorem zw_575 : Cond.instanceMethod ⟨"SurrogateTree", "cut", "(II)I"⟩ ∈ zn_TS := zn_in 575 (by decide +kernel) rfl
theorem zw_576 : Cond.selects "SurrogateTree" ⟨"SurrogateTree", "cut", "(II)I"⟩ ⟨"SurrogateTree", "cut", "(II)I"⟩ ∈ zn_TS := zn_in 576 (by decide +kernel) rfl
theorem zw_577 : Cond.code ⟨"SurrogateTree", "cut", "(II)I"⟩ prog_1_method_16_code 3 (some .int) ∈ zn_TS := zn_in 577 (by decide +kernel) rfl
theorem zw_578 : Cond.methodLink "SurrogateTree" 175 ⟨"SurrogateTree", "isCutTerm", "(I)Z"⟩ ∈ zn_TS := zn_in 578 (by decide +kernel) rfl
theorem zw_579 : Cond.static ⟨"SurrogateTree", "isCutTerm", "(I)Z"⟩ ∈ zn_TS := zn_in 579 (by decide +kernel) rfl
theorem zw_580 : Cond.code ⟨"SurrogateTree", "isCutTerm", "(I)Z"⟩ prog_1_method_22_code 1 (some .boolean) ∈ zn_TS := zn_in 580 (by decide +kernel) rfl
theorem zw_581 : Cond.methodLink "SurrogateTree" 178 ⟨"SurrogateTree$Cutter", "trim", "(LSurrogateTree$Shape;[LSurrogateTree$Node;IILSurrogateTree$Shape;)V"⟩ ∈ zn_TS := zn_in 581 (by decide +kernel) rfl
theorem zw_582 : Cond.instanceMethod ⟨"SurrogateTree$Cutter", "trim", "(LSurrogateTree$Shape;[LSurrogateTree$Node;IILSurrogateTree$Shape;)V"⟩ ∈ zn_TS := zn_in 582 (by decide +kernel) rfl
theorem zw_583 : Cond.selects "SurrogateTree$Cutter" ⟨"SurrogateTree$Cutter", "trim", "(LSurrogateTree$Shape;[LSurrogateTree$Node;IILSurrogateTree$Shape;)V"⟩ ⟨"SurrogateTree$Cutter", "trim", "(LSurrogateTree$Shape;[LSurrogateTree$Node;IILSurrogateTree$Shape;)V"⟩ ∈ zn_TS := zn_in 583 (by decide +kernel) rfl
theorem zw_584 : Cond.code ⟨"SurrogateTree$Cutter", "trim", "(LSurrogateTree$Shape;[LSurrogateTree$Node;IILSurrogateTree$Shape;)V"⟩ prog_3_method_2_code 9 none ∈ zn_TS := zn_in 584 (by decide +kernel) rfl
theorem zw_585 : Cond.methodLink "SurrogateTree$Cutter" 38 ⟨"SurrogateTree$Shape", "at", "(I)I"⟩ ∈ zn_TS := zn_in 585 (by decide +kernel) rfl
theorem zw_586 : Cond.methodLink "SurrogateTree$Cutter" 51 ⟨"SurrogateTree$Shape", "dropOrphans", "()V"⟩ ∈ zn_TS := zn_in 586 (by decide +kernel) rfl
theorem zw_587 : Cond.instanceMethod ⟨"SurrogateTree$Shape", "dropOrphans", "()V"⟩ ∈ zn_TS := zn_in 587 (by decide +kernel) rfl
theorem zw_588 : Cond.selects "SurrogateTree$Shape" ⟨"SurrogateTree$Shape", "dropOrphans", "()V"⟩ ⟨"SurrogateTree$Shape", "dropOrphans", "()V"⟩ ∈ zn_TS := zn_in 588 (by decide +kernel) rfl
theorem zw_589 : Cond.code ⟨"SurrogateTree$Shape", "dropOrphans", "()V"⟩ prog_7_method_6_code 2 none ∈ zn_TS := zn_in 589 (by decide +kernel) rfl
theorem zw_590 : Cond.methodLink "SurrogateTree" 182 ⟨"SurrogateTree$Shape", "leaves", "()I"⟩ ∈ zn_TS := zn_in 590 (by decide +kernel) rfl
theorem zw_591 : Cond.instanceMethod ⟨"SurrogateTree$Shape", "leaves", "()I"⟩ ∈ zn_TS := zn_in 591 (by decide +kernel) rfl
theorem zw_592 : Cond.selects "SurrogateTree$Shape" ⟨"SurrogateTree$Shape", "leaves", "()I"⟩ ⟨"SurrogateTree$Shape", "leaves", "()I"⟩ ∈ zn_TS := zn_in 592 (by decide +kernel) rfl
theorem zw_593 : Cond.code ⟨"SurrogateTree$Shape", "leaves", "()I"⟩ prog_7_method_5_code 3 (some .int) ∈ zn_TS := zn_in 593 (by decide +kernel) rfl
theorem zw_594 : Cond.methodLink "SurrogateTreeLaw" 82 ⟨"SurrogateTree", "breakAt", "(I)I"⟩ ∈ zn_TS := zn_in 594 (by decide +kernel) rfl
theorem zw_595 : Cond.instanceMethod ⟨"SurrogateTree", "breakAt", "(I)I"⟩ ∈ zn_TS := zn_in 595 (by decide +kernel) rfl
theorem zw_596 : Cond.selects "SurrogateTree" ⟨"SurrogateTree", "breakAt", "(I)I"⟩ ⟨"SurrogateTree", "breakAt", "(I)I"⟩ ∈ zn_TS := zn_in 596 (by decide +kernel) rfl
theorem zw_597 : Cond.code ⟨"SurrogateTree", "breakAt", "(I)I"⟩ prog_1_method_17_code 2 (some .int) ∈ zn_TS := zn_in 597 (by decide +kernel) rfl
theorem zw_598 : Cond.methodLink "SurrogateTree" 185 ⟨"SurrogateTree$Cutter", "findBreak", "(LSurrogateTree$Shape;[LSurrogateTree$Node;I)Z"⟩ ∈ zn_TS := zn_in 598 (by decide +kernel) rfl
theorem zw_599 : Cond.instanceMethod ⟨"SurrogateTree$Cutter", "findBreak", "(LSurrogateTree$Shape;[LSurrogateTree$Node;I)Z"⟩ ∈ zn_TS := zn_in 599 (by decide +kernel) rfl
theorem zw_600 : Cond.selects "SurrogateTree$Cutter" ⟨"SurrogateTree$Cutter", "findBreak", "(LSurrogateTree$Shape;[LSurrogateTree$Node;I)Z"⟩ ⟨"SurrogateTree$Cutter", "findBreak", "(LSurrogateTree$Shape;[LSurrogateTree$Node;I)Z"⟩ ∈ zn_TS := zn_in 600 (by decide +kernel) rfl
theorem zw_601 : Cond.code ⟨"SurrogateTree$Cutter", "findBreak", "(LSurrogateTree$Shape;[LSurrogateTree$Node;I)Z"⟩ prog_3_method_3_code 6 (some .boolean) ∈ zn_TS := zn_in 601 (by decide +kernel) rfl
theorem zw_602 : Cond.methodLink "SurrogateTree$Cutter" 54 ⟨"SurrogateTree$Cutter", "trim", "(LSurrogateTree$Shape;[LSurrogateTree$Node;IILSurrogateTree$Shape;)V"⟩ ∈ zn_TS := zn_in 602 (by decide +kernel) rfl
theorem zw_603 : Cond.methodLink "SurrogateTree$Cutter" 58 ⟨"SurrogateTree$Cutter", "findWeakest", "([LSurrogateTree$Node;)Z"⟩ ∈ zn_TS := zn_in 603 (by decide +kernel) rfl
theorem zw_605 : Cond.instanceMethod ⟨"SurrogateTree$Cutter", "findWeakest", "([LSurrogateTree$Node;)Z"⟩ ∈ zn_TS := zn_in 605 (by decide +kernel) rfl
theorem zw_606 : Cond.code ⟨"SurrogateTree$Cutter", "findWeakest", "([LSurrogateTree$Node;)Z"⟩ prog_3_method_4_code 4 (some .boolean) ∈ zn_TS := zn_in 606 (by decide +kernel) rfl
theorem zw_607 : Cond.methodLink "SurrogateTree$Cutter" 69 ⟨"SurrogateTree$Fraction", "set", "(JJ)V"⟩ ∈ zn_TS := zn_in 607 (by decide +kernel) rfl
theorem zw_608 : Cond.methodLink "SurrogateTree$Cutter" 73 ⟨"SurrogateTree$Fraction", "isMoreThan", "(LSurrogateTree$Fraction;)Z"⟩ ∈ zn_TS := zn_in 608 (by decide +kernel) rfl
theorem zw_609 : Cond.methodLink "SurrogateTree$Cutter" 77 ⟨"SurrogateTree$Fraction", "copyFrom", "(LSurrogateTree$Fraction;)V"⟩ ∈ zn_TS := zn_in 609 (by decide +kernel) rfl
theorem zw_610 : Cond.constantLong "SurrogateTree" 192 32 ∈ zn_TS := zn_in 610 (by decide +kernel) rfl
theorem zw_611 : Cond.methodLink "SurrogateTreeLaw" 86 ⟨"SurrogateTree", "tally", "()I"⟩ ∈ zn_TS := zn_in 611 (by decide +kernel) rfl
theorem zw_612 : Cond.instanceMethod ⟨"SurrogateTree", "tally", "()I"⟩ ∈ zn_TS := zn_in 612 (by decide +kernel) rfl
theorem zw_613 : Cond.selects "SurrogateTree" ⟨"SurrogateTree", "tally", "()I"⟩ ⟨"SurrogateTree", "tally", "()I"⟩ ∈ zn_TS := zn_in 613 (by decide +kernel) rfl
theorem zw_614 : Cond.code ⟨"SurrogateTree", "tally", "()I"⟩ prog_1_method_18_code 3 (some .int) ∈ zn_TS := zn_in 614 (by decide +kernel) rfl
theorem zw_615 : Cond.methodLink "SurrogateTree" 198 ⟨"SurrogateTree$Ballot", "add", "(II)V"⟩ ∈ zn_TS := zn_in 615 (by decide +kernel) rfl
theorem zw_616 : Cond.instanceMethod ⟨"SurrogateTree$Ballot", "add", "(II)V"⟩ ∈ zn_TS := zn_in 616 (by decide +kernel) rfl
theorem zw_617 : Cond.selects "SurrogateTree$Ballot" ⟨"SurrogateTree$Ballot", "add", "(II)V"⟩ ⟨"SurrogateTree$Ballot", "add", "(II)V"⟩ ∈ zn_TS := zn_in 617 (by decide +kernel) rfl
theorem zw_618 : Cond.code ⟨"SurrogateTree$Ballot", "add", "(II)V"⟩ prog_2_method_3_code 3 none ∈ zn_TS := zn_in 618 (by decide +kernel) rfl
theorem zw_619 : Cond.methodLink "SurrogateTreeLaw" 91 ⟨"SurrogateTree", "votes", "(II)I"⟩ ∈ zn_TS := zn_in 619 (by decide +kernel) rfl
theorem zw_620 : Cond.instanceMethod ⟨"SurrogateTree", "votes", "(II)I"⟩ ∈ zn_TS := zn_in 620 (by decide +kernel) rfl
theorem zw_621 : Cond.selects "SurrogateTree" ⟨"SurrogateTree", "votes", "(II)I"⟩ ⟨"SurrogateTree", "votes", "(II)I"⟩ ∈ zn_TS := zn_in 621 (by decide +kernel) rfl
theorem zw_622 : Cond.code ⟨"SurrogateTree", "votes", "(II)I"⟩ prog_1_method_19_code 3 (some .int) ∈ zn_TS := zn_in 622 (by decide +kernel) rfl
theorem zw_623 : Cond.methodLink "SurrogateTreeLaw" 95 ⟨"SurrogateTree", "wrong", "()I"⟩ ∈ zn_TS := zn_in 623 (by decide +kernel) rfl
theorem zw_624 : Cond.instanceMethod ⟨"SurrogateTree", "wrong", "()I"⟩ ∈ zn_TS := zn_in 624 (by decide +kernel) rfl
theorem zw_625 : Cond.selects "SurrogateTree" ⟨"SurrogateTree", "wrong", "()I"⟩ ⟨"SurrogateTree", "wrong", "()I"⟩ ∈ zn_TS := zn_in 625 (by decide +kernel) rfl
theorem zw_626 : Cond.code ⟨"SurrogateTree", "wrong", "()I"⟩ prog_1_method_20_code 4 (some .int) ∈ zn_TS := zn_in 626 (by decide +kernel) rfl
theorem zw_627 : Cond.methodLink "SurrogateTree" 205 ⟨"SurrogateTree$Ballot", "choice", "(I)I"⟩ ∈ zn_TS := zn_in 627 (by decide +kernel) rfl
theorem zw_628 : Cond.instanceMethod ⟨"SurrogateTree$Ballot", "choice", "(I)I"⟩ ∈ zn_TS := zn_in 628 (by decide +kernel) rfl
theorem zw_629 : Cond.selects "SurrogateTree$Ballot" ⟨"SurrogateTree$Ballot", "choice", "(I)I"⟩ ⟨"SurrogateTree$Ballot", "choice", "(I)I"⟩ ∈ zn_TS := zn_in 629 (by decide +kernel) rfl
theorem zw_630 : Cond.code ⟨"SurrogateTree$Ballot", "choice", "(I)I"⟩ prog_2_method_4_code 5 (some .int) ∈ zn_TS := zn_in 630 (by decide +kernel) rfl
theorem zw_631 : Cond.classLink "SurrogateTreeLaw" 10 "SurrogateTreeModel" ∈ zn_TS := zn_in 631 (by decide +kernel) rfl
theorem zw_632 : Cond.instantiable "SurrogateTreeModel" 34 ∈ zn_TS := zn_in 632 (by decide +kernel) rfl
theorem zw_633 : Cond.methodLink "SurrogateTreeLaw" 12 ⟨"SurrogateTreeModel", "<init>", "()V"⟩ ∈ zn_TS := zn_in 633 (by decide +kernel) rfl
theorem zw_634 : Cond.instanceMethod ⟨"SurrogateTreeModel", "<init>", "()V"⟩ ∈ zn_TS := zn_in 634 (by decide +kernel) rfl
theorem zw_635 : Cond.code ⟨"SurrogateTreeModel", "<init>", "()V"⟩ prog_13_method_1_code 1 none ∈ zn_TS := zn_in 635 (by decide +kernel) rfl
theorem zw_636 : Cond.methodLink "SurrogateTreeModel" 1 ⟨"java/lang/Object", "<init>", "()V"⟩ ∈ zn_TS := zn_in 636 (by decide +kernel) rfl
theorem zw_637 : Cond.methodLink "SurrogateTreeModel" 73 ⟨"SurrogateTreeModel", "anew", "()V"⟩ ∈ zn_TS := zn_in 637 (by decide +kernel) rfl
theorem zw_639 : Cond.instanceMethod ⟨"SurrogateTreeModel", "anew", "()V"⟩ ∈ zn_TS := zn_in 639 (by decide +kernel) rfl
theorem zw_640 : Cond.code ⟨"SurrogateTreeModel", "anew", "()V"⟩ prog_13_method_2_code 2 none ∈ zn_TS := zn_in 640 (by decide +kernel) rfl
theorem zw_641 : Cond.fieldLink "SurrogateTreeModel" 76 "SurrogateTreeModel" "n" "I" ∈ zn_TS := zn_in 641 (by decide +kernel) rfl
theorem zw_642 : Cond.fieldLink "SurrogateTreeModel" 7 "SurrogateTreeModel" "value" "[I" ∈ zn_TS := zn_in 642 (by decide +kernel) rfl
theorem zw_643 : Cond.fieldLink "SurrogateTreeModel" 13 "SurrogateTreeModel" "own" "[I" ∈ zn_TS := zn_in 643 (by decide +kernel) rfl
theorem zw_644 : Cond.fieldLink "SurrogateTreeModel" 16 "SurrogateTreeModel" "weight" "[I" ∈ zn_TS := zn_in 644 (by decide +kernel) rfl
theorem zw_645 : Cond.fieldLink "SurrogateTreeModel" 19 "SurrogateTreeModel" "vote" "[I" ∈ zn_TS := zn_in 645 (by decide +kernel) rfl
theorem zw_646 : Cond.fieldLink "SurrogateTreeModel" 86 "SurrogateTreeModel" "criterion" "I" ∈ zn_TS := zn_in 646 (by decide +kernel) rfl
theorem zw_647 : Cond.fieldLink "SurrogateTreeModel" 22 "SurrogateTreeModel" "limit" "I" ∈ zn_TS := zn_in 647 (by decide +kernel) rfl
theorem zw_648 : Cond.fieldLink "SurrogateTreeModel" 26 "SurrogateTreeModel" "leaf" "I" ∈ zn_TS := zn_in 648 (by decide +kernel) rfl
theorem zw_649 : Cond.fieldLink "SurrogateTreeModel" 29 "SurrogateTreeModel" "state" "[I" ∈ zn_TS := zn_in 649 (by decide +kernel) rfl
theorem zw_650 : Cond.fieldLink "SurrogateTreeModel" 32 "SurrogateTreeModel" "rows" "[I" ∈ zn_TS := zn_in 650 (by decide +kernel) rfl
theorem zw_651 : Cond.fieldLink "SurrogateTreeModel" 35 "SurrogateTreeModel" "feature" "[I" ∈ zn_TS := zn_in 651 (by decide +kernel) rfl
theorem zw_652 : Cond.fieldLink "SurrogateTreeModel" 38 "SurrogateTreeModel" "border" "[I" ∈ zn_TS := zn_in 652 (by decide +kernel) rfl
theorem zw_653 : Cond.fieldLink "SurrogateTreeModel" 79 "SurrogateTreeModel" "isCut" "Z" ∈ zn_TS := zn_in 653 (by decide +kernel) rfl
theorem zw_654 : Cond.fieldLink "SurrogateTreeModel" 186 "SurrogateTreeModel" "cutTop" "I" ∈ zn_TS := zn_in 654 (by decide +kernel) rfl
theorem zw_655 : Cond.fieldLink "SurrogateTreeModel" 189 "SurrogateTreeModel" "cutBottom" "I" ∈ zn_TS := zn_in 655 (by decide +kernel) rfl
theorem zw_656 : Cond.fieldLink "SurrogateTreeModel" 109 "SurrogateTreeModel" "top" "I" ∈ zn_TS := zn_in 656 (by decide +kernel) rfl
theorem zw_657 : Cond.fieldLink "SurrogateTreeModel" 112 "SurrogateTreeModel" "bottom" "I" ∈ zn_TS := zn_in 657 (by decide +kernel) rfl
theorem zw_658 : Cond.fieldLink "SurrogateTreeModel" 115 "SurrogateTreeModel" "bestFeature" "I" ∈ zn_TS := zn_in 658 (by decide +kernel) rfl
theorem zw_659 : Cond.fieldLink "SurrogateTreeModel" 136 "SurrogateTreeModel" "bestBorder" "I" ∈ zn_TS := zn_in 659 (by decide +kernel) rfl
theorem zw_660 : Cond.fieldLink "SurrogateTreeModel" 152 "SurrogateTreeModel" "count" "I" ∈ zn_TS := zn_in 660 (by decide +kernel) rfl
theorem zw_661 : Cond.fieldLink "SurrogateTreeModel" 41 "SurrogateTreeModel" "standFeature" "[I" ∈ zn_TS := zn_in 661 (by decide +kernel) rfl
theorem zw_662 : Cond.fieldLink "SurrogateTreeModel" 44 "SurrogateTreeModel" "standBorder" "[I" ∈ zn_TS := zn_in 662 (by decide +kernel) rfl
theorem zw_663 : Cond.fieldLink "SurrogateTreeModel" 47 "SurrogateTreeModel" "standTurned" "[I" ∈ zn_TS := zn_in 663 (by decide +kernel) rfl
theorem zw_664 : Cond.fieldLink "SurrogateTreeModel" 50 "SurrogateTreeModel" "standAgreed" "[I" ∈ zn_TS := zn_in 664 (by decide +kernel) rfl
theorem zw_665 : Cond.fieldLink "SurrogateTreeModel" 146 "SurrogateTreeModel" "oneBorder" "I" ∈ zn_TS := zn_in 665 (by decide +kernel) rfl
theorem zw_666 : Cond.fieldLink "SurrogateTreeModel" 149 "SurrogateTreeModel" "oneTurned" "I" ∈ zn_TS := zn_in 666 (by decide +kernel) rfl
theorem zw_667 : Cond.fieldLink "SurrogateTreeModel" 139 "SurrogateTreeModel" "oneAgreed" "I" ∈ zn_TS := zn_in 667 (by decide +kernel) rfl
theorem zw_668 : Cond.fieldLink "SurrogateTreeModel" 53 "SurrogateTreeModel" "errors" "[I" ∈ zn_TS := zn_in 668 (by decide +kernel) rfl
theorem zw_669 : Cond.fieldLink "SurrogateTreeModel" 56 "SurrogateTreeModel" "cost" "[J" ∈ zn_TS := zn_in 669 (by decide +kernel) rfl
theorem zw_670 : Cond.fieldLink "SurrogateTreeModel" 60 "SurrogateTreeModel" "leaves" "[I" ∈ zn_TS := zn_in 670 (by decide +kernel) rfl
theorem zw_671 : Cond.fieldLink "SurrogateTreeModel" 63 "SurrogateTreeModel" "stays" "[Z" ∈ zn_TS := zn_in 671 (by decide +kernel) rfl
theorem zw_672 : Cond.fieldLink "SurrogateTreeModel" 203 "SurrogateTreeModel" "breaks" "I" ∈ zn_TS := zn_in 672 (by decide +kernel) rfl
theorem zw_673 : Cond.fieldLink "SurrogateTreeModel" 67 "SurrogateTreeModel" "breakTop" "[I" ∈ zn_TS := zn_in 673 (by decide +kernel) rfl
theorem zw_674 : Cond.fieldLink "SurrogateTreeModel" 70 "SurrogateTreeModel" "breakBottom" "[I" ∈ zn_TS := zn_in 674 (by decide +kernel) rfl
theorem zw_675 : Cond.lays "SurrogateTreeModel" "SurrogateTreeModel" "n" "I" ∈ zn_TS := zn_in 675 (by decide +kernel) rfl
theorem zw_677 : Cond.lays "SurrogateTreeModel" "SurrogateTreeModel" "value" "[I" ∈ zn_TS := zn_in 677 (by decide +kernel) rfl
theorem zw_679 : Cond.lays "SurrogateTreeModel" "SurrogateTreeModel" "own" "[I" ∈ zn_TS := zn_in 679 (by decide +kernel) rfl
theorem zw_681 : Cond.lays "SurrogateTreeModel" "SurrogateTreeModel" "weight" "[I" ∈ zn_TS := zn_in 681 (by decide +kernel) rfl
theorem zw_683 : Cond.lays "SurrogateTreeModel" "SurrogateTreeModel" "vote" "[I" ∈ zn_TS := zn_in 683 (by decide +kernel) rfl
theorem zw_685 : Cond.lays "SurrogateTreeModel" "SurrogateTreeModel" "criterion" "I" ∈ zn_TS := zn_in 685 (by decide +kernel) rfl
theorem zw_687 : Cond.lays "SurrogateTreeModel" "SurrogateTreeModel" "limit" "I" ∈ zn_TS := zn_in 687 (by decide +kernel) rfl
theorem zw_689 : Cond.lays "SurrogateTreeModel" "SurrogateTreeModel" "leaf" "I" ∈ zn_TS := zn_in 689 (by decide +kernel) rfl
theorem zw_691 : Cond.lays "SurrogateTreeModel" "SurrogateTreeModel" "state" "[I" ∈ zn_TS := zn_in 691 (by decide +kernel) rfl
theorem zw_693 : Cond.lays "SurrogateTreeModel" "SurrogateTreeModel" "rows" "[I" ∈ zn_TS := zn_in 693 (by decide +kernel) rfl
theorem zw_695 : Cond.lays "SurrogateTreeModel" "SurrogateTreeModel" "feature" "[I" ∈ zn_TS := zn_in 695 (by decide +kernel) rfl
theorem zw_697 : Cond.lays "SurrogateTreeModel" "SurrogateTreeModel" "border" "[I" ∈ zn_TS := zn_in 697 (by decide +kernel) rfl
theorem zw_699 : Cond.lays "SurrogateTreeModel" "SurrogateTreeModel" "isCut" "Z" ∈ zn_TS := zn_in 699 (by decide +kernel) rfl
theorem zw_701 : Cond.lays "SurrogateTreeModel" "SurrogateTreeModel" "cutTop" "I" ∈ zn_TS := zn_in 701 (by decide +kernel) rfl
theorem zw_703 : Cond.lays "SurrogateTreeModel" "SurrogateTreeModel" "cutBottom" "I" ∈ zn_TS := zn_in 703 (by decide +kernel) rfl
theorem zw_705 : Cond.lays "SurrogateTreeModel" "SurrogateTreeModel" "top" "I" ∈ zn_TS := zn_in 705 (by decide +kernel) rfl
theorem zw_707 : Cond.lays "SurrogateTreeModel" "SurrogateTreeModel" "bottom" "I" ∈ zn_TS := zn_in 707 (by decide +kernel) rfl
theorem zw_709 : Cond.lays "SurrogateTreeModel" "SurrogateTreeModel" "bestFeature" "I" ∈ zn_TS := zn_in 709 (by decide +kernel) rfl
theorem zw_711 : Cond.lays "SurrogateTreeModel" "SurrogateTreeModel" "bestBorder" "I" ∈ zn_TS := zn_in 711 (by decide +kernel) rfl
theorem zw_713 : Cond.lays "SurrogateTreeModel" "SurrogateTreeModel" "count" "I" ∈ zn_TS := zn_in 713 (by decide +kernel) rfl
theorem zw_715 : Cond.lays "SurrogateTreeModel" "SurrogateTreeModel" "standFeature" "[I" ∈ zn_TS := zn_in 715 (by decide +kernel) rfl
theorem zw_717 : Cond.lays "SurrogateTreeModel" "SurrogateTreeModel" "standBorder" "[I" ∈ zn_TS := zn_in 717 (by decide +kernel) rfl
theorem zw_719 : Cond.lays "SurrogateTreeModel" "SurrogateTreeModel" "standTurned" "[I" ∈ zn_TS := zn_in 719 (by decide +kernel) rfl
theorem zw_721 : Cond.lays "SurrogateTreeModel" "SurrogateTreeModel" "standAgreed" "[I" ∈ zn_TS := zn_in 721 (by decide +kernel) rfl
theorem zw_723 : Cond.lays "SurrogateTreeModel" "SurrogateTreeModel" "oneBorder" "I" ∈ zn_TS := zn_in 723 (by decide +kernel) rfl
theorem zw_725 : Cond.lays "SurrogateTreeModel" "SurrogateTreeModel" "oneTurned" "I" ∈ zn_TS := zn_in 725 (by decide +kernel) rfl
theorem zw_727 : Cond.lays "SurrogateTreeModel" "SurrogateTreeModel" "oneAgreed" "I" ∈ zn_TS := zn_in 727 (by decide +kernel) rfl
theorem zw_729 : Cond.lays "SurrogateTreeModel" "SurrogateTreeModel" "errors" "[I" ∈ zn_TS := zn_in 729 (by decide +kernel) rfl
theorem zw_731 : Cond.lays "SurrogateTreeModel" "SurrogateTreeModel" "cost" "[J" ∈ zn_TS := zn_in 731 (by decide +kernel) rfl
theorem zw_733 : Cond.lays "SurrogateTreeModel" "SurrogateTreeModel" "leaves" "[I" ∈ zn_TS := zn_in 733 (by decide +kernel) rfl
theorem zw_735 : Cond.lays "SurrogateTreeModel" "SurrogateTreeModel" "stays" "[Z" ∈ zn_TS := zn_in 735 (by decide +kernel) rfl
theorem zw_737 : Cond.lays "SurrogateTreeModel" "SurrogateTreeModel" "breaks" "I" ∈ zn_TS := zn_in 737 (by decide +kernel) rfl
theorem zw_739 : Cond.lays "SurrogateTreeModel" "SurrogateTreeModel" "breakTop" "[I" ∈ zn_TS := zn_in 739 (by decide +kernel) rfl
theorem zw_741 : Cond.lays "SurrogateTreeModel" "SurrogateTreeModel" "breakBottom" "[I" ∈ zn_TS := zn_in 741 (by decide +kernel) rfl
theorem zw_744 : Cond.arrayClass .long ∈ zn_TS := zn_in 744 (by decide +kernel) rfl
theorem zw_745 : Cond.arrayClass .boolean ∈ zn_TS := zn_in 745 (by decide +kernel) rfl
theorem zw_746 : Cond.methodLink "SurrogateTreeLaw" 17 ⟨"SurrogateTreeModel", "addRow", "(IIII)I"⟩ ∈ zn_TS := zn_in 746 (by decide +kernel) rfl
theorem zw_747 : Cond.instanceMethod ⟨"SurrogateTreeModel", "addRow", "(IIII)I"⟩ ∈ zn_TS := zn_in 747 (by decide +kernel) rfl
theorem zw_748 : Cond.selects "SurrogateTreeModel" ⟨"SurrogateTreeModel", "addRow", "(IIII)I"⟩ ⟨"SurrogateTreeModel", "addRow", "(IIII)I"⟩ ∈ zn_TS := zn_in 748 (by decide +kernel) rfl
theorem zw_749 : Cond.code ⟨"SurrogateTreeModel", "addRow", "(IIII)I"⟩ prog_13_method_3_code 6 (some .int) ∈ zn_TS := zn_in 749 (by decide +kernel) rfl
theorem zw_750 : Cond.methodLink "SurrogateTreeModel" 83 ⟨"SurrogateTreeModel", "even", "()V"⟩ ∈ zn_TS := zn_in 750 (by decide +kernel) rfl
theorem zw_751 : Cond.instanceMethod ⟨"SurrogateTreeModel", "even", "()V"⟩ ∈ zn_TS := zn_in 751 (by decide +kernel) rfl
theorem zw_752 : Cond.selects "SurrogateTreeModel" ⟨"SurrogateTreeModel", "even", "()V"⟩ ⟨"SurrogateTreeModel", "even", "()V"⟩ ∈ zn_TS := zn_in 752 (by decide +kernel) rfl
theorem zw_753 : Cond.code ⟨"SurrogateTreeModel", "even", "()V"⟩ prog_13_method_6_code 2 none ∈ zn_TS := zn_in 753 (by decide +kernel) rfl
theorem zw_754 : Cond.methodLink "SurrogateTreeLaw" 22 ⟨"SurrogateTreeModel", "begin", "(III)Z"⟩ ∈ zn_TS := zn_in 754 (by decide +kernel) rfl
theorem zw_755 : Cond.instanceMethod ⟨"SurrogateTreeModel", "begin", "(III)Z"⟩ ∈ zn_TS := zn_in 755 (by decide +kernel) rfl
theorem zw_756 : Cond.selects "SurrogateTreeModel" ⟨"SurrogateTreeModel", "begin", "(III)Z"⟩ ⟨"SurrogateTreeModel", "begin", "(III)Z"⟩ ∈ zn_TS := zn_in 756 (by decide +kernel) rfl
theorem zw_757 : Cond.code ⟨"SurrogateTreeModel", "begin", "(III)Z"⟩ prog_13_method_4_code 4 (some .boolean) ∈ zn_TS := zn_in 757 (by decide +kernel) rfl
theorem zw_758 : Cond.methodLink "SurrogateTreeLaw" 29 ⟨"SurrogateTreeModel", "bag", "(J)I"⟩ ∈ zn_TS := zn_in 758 (by decide +kernel) rfl
theorem zw_759 : Cond.instanceMethod ⟨"SurrogateTreeModel", "bag", "(J)I"⟩ ∈ zn_TS := zn_in 759 (by decide +kernel) rfl
theorem zw_760 : Cond.selects "SurrogateTreeModel" ⟨"SurrogateTreeModel", "bag", "(J)I"⟩ ⟨"SurrogateTreeModel", "bag", "(J)I"⟩ ∈ zn_TS := zn_in 760 (by decide +kernel) rfl
theorem zw_761 : Cond.code ⟨"SurrogateTreeModel", "bag", "(J)I"⟩ prog_13_method_5_code 8 (some .int) ∈ zn_TS := zn_in 761 (by decide +kernel) rfl
theorem zw_762 : Cond.constantLong "SurrogateTreeModel" 89 7391840562913847605 ∈ zn_TS := zn_in 762 (by decide +kernel) rfl
theorem zw_763 : Cond.constantLong "SurrogateTreeModel" 91 1027 ∈ zn_TS := zn_in 763 (by decide +kernel) rfl
theorem zw_764 : Cond.methodLink "SurrogateTreeLaw" 33 ⟨"SurrogateTreeModel", "even", "()V"⟩ ∈ zn_TS := zn_in 764 (by decide +kernel) rfl
theorem zw_765 : Cond.methodLink "SurrogateTreeLaw" 38 ⟨"SurrogateTreeModel", "weight", "(I)I"⟩ ∈ zn_TS := zn_in 765 (by decide +kernel) rfl
theorem zw_766 : Cond.instanceMethod ⟨"SurrogateTreeModel", "weight", "(I)I"⟩ ∈ zn_TS := zn_in 766 (by decide +kernel) rfl
theorem zw_767 : Cond.selects "SurrogateTreeModel" ⟨"SurrogateTreeModel", "weight", "(I)I"⟩ ⟨"SurrogateTreeModel", "weight", "(I)I"⟩ ∈ zn_TS := zn_in 767 (by decide +kernel) rfl
theorem zw_768 : Cond.code ⟨"SurrogateTreeModel", "weight", "(I)I"⟩ prog_13_method_7_code 2 (some .int) ∈ zn_TS := zn_in 768 (by decide +kernel) rfl
theorem zw_769 : Cond.methodLink "SurrogateTreeLaw" 42 ⟨"SurrogateTreeModel", "grow", "(I)I"⟩ ∈ zn_TS := zn_in 769 (by decide +kernel) rfl
theorem zw_770 : Cond.instanceMethod ⟨"SurrogateTreeModel", "grow", "(I)I"⟩ ∈ zn_TS := zn_in 770 (by decide +kernel) rfl
theorem zw_771 : Cond.selects "SurrogateTreeModel" ⟨"SurrogateTreeModel", "grow", "(I)I"⟩ ⟨"SurrogateTreeModel", "grow", "(I)I"⟩ ∈ zn_TS := zn_in 771 (by decide +kernel) rfl
theorem zw_772 : Cond.code ⟨"SurrogateTreeModel", "grow", "(I)I"⟩ prog_13_method_26_code 3 (some .int) ∈ zn_TS := zn_in 772 (by decide +kernel) rfl
theorem zw_773 : Cond.methodLink "SurrogateTreeModel" 173 ⟨"SurrogateTreeModel", "waiting", "()I"⟩ ∈ zn_TS := zn_in 773 (by decide +kernel) rfl
theorem zw_775 : Cond.instanceMethod ⟨"SurrogateTreeModel", "waiting", "()I"⟩ ∈ zn_TS := zn_in 775 (by decide +kernel) rfl
theorem zw_776 : Cond.code ⟨"SurrogateTreeModel", "waiting", "()I"⟩ prog_13_method_23_code 3 (some .int) ∈ zn_TS := zn_in 776 (by decide +kernel) rfl
theorem zw_777 : Cond.methodLink "SurrogateTreeModel" 177 ⟨"SurrogateTreeModel", "turn", "(I)V"⟩ ∈ zn_TS := zn_in 777 (by decide +kernel) rfl
theorem zw_779 : Cond.instanceMethod ⟨"SurrogateTreeModel", "turn", "(I)V"⟩ ∈ zn_TS := zn_in 779 (by decide +kernel) rfl
theorem zw_780 : Cond.code ⟨"SurrogateTreeModel", "turn", "(I)V"⟩ prog_13_method_25_code 4 none ∈ zn_TS := zn_in 780 (by decide +kernel) rfl
theorem zw_781 : Cond.methodLink "SurrogateTreeModel" 162 ⟨"SurrogateTreeModel", "depthOf", "(I)I"⟩ ∈ zn_TS := zn_in 781 (by decide +kernel) rfl
theorem zw_782 : Cond.static ⟨"SurrogateTreeModel", "depthOf", "(I)I"⟩ ∈ zn_TS := zn_in 782 (by decide +kernel) rfl
theorem zw_783 : Cond.code ⟨"SurrogateTreeModel", "depthOf", "(I)I"⟩ prog_13_method_24_code 1 (some .int) ∈ zn_TS := zn_in 783 (by decide +kernel) rfl
theorem zw_784 : Cond.methodLink "SurrogateTreeModel" 165 ⟨"SurrogateTreeModel", "seek", "(I)Z"⟩ ∈ zn_TS := zn_in 784 (by decide +kernel) rfl
theorem zw_786 : Cond.instanceMethod ⟨"SurrogateTreeModel", "seek", "(I)Z"⟩ ∈ zn_TS := zn_in 786 (by decide +kernel) rfl
theorem zw_787 : Cond.code ⟨"SurrogateTreeModel", "seek", "(I)Z"⟩ prog_13_method_18_code 13 (some .boolean) ∈ zn_TS := zn_in 787 (by decide +kernel) rfl
theorem zw_788 : Cond.methodLink "SurrogateTreeModel" 118 ⟨"SurrogateTreeModel", "present", "(II)I"⟩ ∈ zn_TS := zn_in 788 (by decide +kernel) rfl
theorem zw_790 : Cond.instanceMethod ⟨"SurrogateTreeModel", "present", "(II)I"⟩ ∈ zn_TS := zn_in 790 (by decide +kernel) rfl
theorem zw_791 : Cond.code ⟨"SurrogateTreeModel", "present", "(II)I"⟩ prog_13_method_10_code 5 (some .int) ∈ zn_TS := zn_in 791 (by decide +kernel) rfl
theorem zw_792 : Cond.methodLink "SurrogateTreeModel" 93 ⟨"SurrogateTreeModel", "has", "(II)Z"⟩ ∈ zn_TS := zn_in 792 (by decide +kernel) rfl
theorem zw_793 : Cond.static ⟨"SurrogateTreeModel", "has", "(II)Z"⟩ ∈ zn_TS := zn_in 793 (by decide +kernel) rfl
theorem zw_794 : Cond.code ⟨"SurrogateTreeModel", "has", "(II)Z"⟩ prog_13_method_8_code 2 (some .boolean) ∈ zn_TS := zn_in 794 (by decide +kernel) rfl
theorem zw_795 : Cond.constant "SurrogateTreeModel" 97 (-2147483648) ∈ zn_TS := zn_in 795 (by decide +kernel) rfl
theorem zw_796 : Cond.methodLink "SurrogateTreeModel" 121 ⟨"SurrogateTreeModel", "next", "(IIII)Z"⟩ ∈ zn_TS := zn_in 796 (by decide +kernel) rfl
theorem zw_798 : Cond.instanceMethod ⟨"SurrogateTreeModel", "next", "(IIII)Z"⟩ ∈ zn_TS := zn_in 798 (by decide +kernel) rfl
theorem zw_799 : Cond.code ⟨"SurrogateTreeModel", "next", "(IIII)Z"⟩ prog_13_method_12_code 8 (some .boolean) ∈ zn_TS := zn_in 799 (by decide +kernel) rfl
theorem zw_800 : Cond.methodLink "SurrogateTreeModel" 125 ⟨"SurrogateTreeModel", "between", "(III)I"⟩ ∈ zn_TS := zn_in 800 (by decide +kernel) rfl
theorem zw_802 : Cond.instanceMethod ⟨"SurrogateTreeModel", "between", "(III)I"⟩ ∈ zn_TS := zn_in 802 (by decide +kernel) rfl
theorem zw_803 : Cond.code ⟨"SurrogateTreeModel", "between", "(III)I"⟩ prog_13_method_13_code 4 (some .int) ∈ zn_TS := zn_in 803 (by decide +kernel) rfl
theorem zw_804 : Cond.methodLink "SurrogateTreeModel" 129 ⟨"SurrogateTreeModel", "upTo", "(III)I"⟩ ∈ zn_TS := zn_in 804 (by decide +kernel) rfl
theorem zw_806 : Cond.instanceMethod ⟨"SurrogateTreeModel", "upTo", "(III)I"⟩ ∈ zn_TS := zn_in 806 (by decide +kernel) rfl
theorem zw_807 : Cond.code ⟨"SurrogateTreeModel", "upTo", "(III)I"⟩ prog_13_method_11_code 6 (some .int) ∈ zn_TS := zn_in 807 (by decide +kernel) rfl
theorem zw_808 : Cond.methodLink "SurrogateTreeModel" 98 ⟨"SurrogateTreeModel", "weigh", "(II)I"⟩ ∈ zn_TS := zn_in 808 (by decide +kernel) rfl
theorem zw_810 : Cond.instanceMethod ⟨"SurrogateTreeModel", "weigh", "(II)I"⟩ ∈ zn_TS := zn_in 810 (by decide +kernel) rfl
theorem zw_811 : Cond.code ⟨"SurrogateTreeModel", "weigh", "(II)I"⟩ prog_13_method_9_code 5 (some .int) ∈ zn_TS := zn_in 811 (by decide +kernel) rfl
theorem zw_812 : Cond.methodLink "SurrogateTreeModel" 132 ⟨"SurrogateTreeModel", "gainOf", "(II)V"⟩ ∈ zn_TS := zn_in 812 (by decide +kernel) rfl
theorem zw_814 : Cond.instanceMethod ⟨"SurrogateTreeModel", "gainOf", "(II)V"⟩ ∈ zn_TS := zn_in 814 (by decide +kernel) rfl
theorem zw_815 : Cond.code ⟨"SurrogateTreeModel", "gainOf", "(II)V"⟩ prog_13_method_17_code 10 none ∈ zn_TS := zn_in 815 (by decide +kernel) rfl
theorem zw_816 : Cond.methodLink "SurrogateTreeModel" 106 ⟨"SurrogateTreeModel", "greatest", "(I)I"⟩ ∈ zn_TS := zn_in 816 (by decide +kernel) rfl
theorem zw_818 : Cond.instanceMethod ⟨"SurrogateTreeModel", "greatest", "(I)I"⟩ ∈ zn_TS := zn_in 818 (by decide +kernel) rfl
theorem zw_819 : Cond.code ⟨"SurrogateTreeModel", "greatest", "(I)I"⟩ prog_13_method_16_code 2 (some .int) ∈ zn_TS := zn_in 819 (by decide +kernel) rfl
theorem zw_820 : Cond.methodLink "SurrogateTreeModel" 102 ⟨"SurrogateTreeModel", "classIn", "(I)I"⟩ ∈ zn_TS := zn_in 820 (by decide +kernel) rfl
theorem zw_822 : Cond.instanceMethod ⟨"SurrogateTreeModel", "classIn", "(I)I"⟩ ∈ zn_TS := zn_in 822 (by decide +kernel) rfl
theorem zw_823 : Cond.code ⟨"SurrogateTreeModel", "classIn", "(I)I"⟩ prog_13_method_14_code 4 (some .int) ∈ zn_TS := zn_in 823 (by decide +kernel) rfl
theorem zw_824 : Cond.methodLink "SurrogateTreeModel" 169 ⟨"SurrogateTreeModel", "goes", "(IIII)I"⟩ ∈ zn_TS := zn_in 824 (by decide +kernel) rfl
theorem zw_826 : Cond.instanceMethod ⟨"SurrogateTreeModel", "goes", "(IIII)I"⟩ ∈ zn_TS := zn_in 826 (by decide +kernel) rfl
theorem zw_827 : Cond.code ⟨"SurrogateTreeModel", "goes", "(IIII)I"⟩ prog_13_method_22_code 11 (some .int) ∈ zn_TS := zn_in 827 (by decide +kernel) rfl
theorem zw_828 : Cond.methodLink "SurrogateTreeModel" 158 ⟨"SurrogateTreeModel", "standIns", "(I)V"⟩ ∈ zn_TS := zn_in 828 (by decide +kernel) rfl
theorem zw_830 : Cond.instanceMethod ⟨"SurrogateTreeModel", "standIns", "(I)V"⟩ ∈ zn_TS := zn_in 830 (by decide +kernel) rfl
theorem zw_831 : Cond.code ⟨"SurrogateTreeModel", "standIns", "(I)V"⟩ prog_13_method_21_code 4 none ∈ zn_TS := zn_in 831 (by decide +kernel) rfl
theorem zw_832 : Cond.methodLink "SurrogateTreeModel" 155 ⟨"SurrogateTreeModel", "standIn", "(II)Z"⟩ ∈ zn_TS := zn_in 832 (by decide +kernel) rfl
theorem zw_834 : Cond.instanceMethod ⟨"SurrogateTreeModel", "standIn", "(II)Z"⟩ ∈ zn_TS := zn_in 834 (by decide +kernel) rfl
theorem zw_835 : Cond.code ⟨"SurrogateTreeModel", "standIn", "(II)Z"⟩ prog_13_method_19_code 15 (some .boolean) ∈ zn_TS := zn_in 835 (by decide +kernel) rfl
theorem zw_836 : Cond.methodLink "SurrogateTreeModel" 142 ⟨"SurrogateTreeModel", "consider", "(III)V"⟩ ∈ zn_TS := zn_in 836 (by decide +kernel) rfl
theorem zw_838 : Cond.instanceMethod ⟨"SurrogateTreeModel", "consider", "(III)V"⟩ ∈ zn_TS := zn_in 838 (by decide +kernel) rfl
theorem zw_839 : Cond.code ⟨"SurrogateTreeModel", "consider", "(III)V"⟩ prog_13_method_20_code 5 none ∈ zn_TS := zn_in 839 (by decide +kernel) rfl
theorem zw_840 : Cond.methodLink "SurrogateTreeLaw" 46 ⟨"SurrogateTreeModel", "kind", "(I)I"⟩ ∈ zn_TS := zn_in 840 (by decide +kernel) rfl
theorem zw_841 : Cond.instanceMethod ⟨"SurrogateTreeModel", "kind", "(I)I"⟩ ∈ zn_TS := zn_in 841 (by decide +kernel) rfl
theorem zw_842 : Cond.selects "SurrogateTreeModel" ⟨"SurrogateTreeModel", "kind", "(I)I"⟩ ⟨"SurrogateTreeModel", "kind", "(I)I"⟩ ∈ zn_TS := zn_in 842 (by decide +kernel) rfl
theorem zw_843 : Cond.code ⟨"SurrogateTreeModel", "kind", "(I)I"⟩ prog_13_method_29_code 3 (some .int) ∈ zn_TS := zn_in 843 (by decide +kernel) rfl
theorem zw_844 : Cond.methodLink "SurrogateTreeModel" 183 ⟨"SurrogateTreeModel", "findErrors", "()V"⟩ ∈ zn_TS := zn_in 844 (by decide +kernel) rfl
theorem zw_846 : Cond.instanceMethod ⟨"SurrogateTreeModel", "findErrors", "()V"⟩ ∈ zn_TS := zn_in 846 (by decide +kernel) rfl
theorem zw_847 : Cond.code ⟨"SurrogateTreeModel", "findErrors", "()V"⟩ prog_13_method_27_code 2 none ∈ zn_TS := zn_in 847 (by decide +kernel) rfl
theorem zw_848 : Cond.methodLink "SurrogateTreeModel" 180 ⟨"SurrogateTreeModel", "errorIn", "(I)I"⟩ ∈ zn_TS := zn_in 848 (by decide +kernel) rfl
theorem zw_850 : Cond.instanceMethod ⟨"SurrogateTreeModel", "errorIn", "(I)I"⟩ ∈ zn_TS := zn_in 850 (by decide +kernel) rfl
theorem zw_851 : Cond.code ⟨"SurrogateTreeModel", "errorIn", "(I)I"⟩ prog_13_method_15_code 2 (some .int) ∈ zn_TS := zn_in 851 (by decide +kernel) rfl
theorem zw_852 : Cond.methodLink "SurrogateTreeModel" 192 ⟨"SurrogateTreeModel", "shape", "(II)I"⟩ ∈ zn_TS := zn_in 852 (by decide +kernel) rfl
theorem zw_854 : Cond.instanceMethod ⟨"SurrogateTreeModel", "shape", "(II)I"⟩ ∈ zn_TS := zn_in 854 (by decide +kernel) rfl
theorem zw_855 : Cond.code ⟨"SurrogateTreeModel", "shape", "(II)I"⟩ prog_13_method_28_code 6 (some .int) ∈ zn_TS := zn_in 855 (by decide +kernel) rfl
theorem zw_856 : Cond.methodLink "SurrogateTreeLaw" 51 ⟨"SurrogateTreeModel", "rule", "(II)I"⟩ ∈ zn_TS := zn_in 856 (by decide +kernel) rfl
theorem zw_857 : Cond.instanceMethod ⟨"SurrogateTreeModel", "rule", "(II)I"⟩ ∈ zn_TS := zn_in 857 (by decide +kernel) rfl
theorem zw_858 : Cond.selects "SurrogateTreeModel" ⟨"SurrogateTreeModel", "rule", "(II)I"⟩ ⟨"SurrogateTreeModel", "rule", "(II)I"⟩ ∈ zn_TS := zn_in 858 (by decide +kernel) rfl
theorem zw_859 : Cond.code ⟨"SurrogateTreeModel", "rule", "(II)I"⟩ prog_13_method_30_code 3 (some .int) ∈ zn_TS := zn_in 859 (by decide +kernel) rfl
theorem zw_860 : Cond.methodLink "SurrogateTreeModel" 195 ⟨"SurrogateTreeModel", "kind", "(I)I"⟩ ∈ zn_TS := zn_in 860 (by decide +kernel) rfl
theorem zw_861 : Cond.methodLink "SurrogateTreeLaw" 55 ⟨"SurrogateTreeModel", "threshold", "(II)I"⟩ ∈ zn_TS := zn_in 861 (by decide +kernel) rfl
theorem zw_862 : Cond.instanceMethod ⟨"SurrogateTreeModel", "threshold", "(II)I"⟩ ∈ zn_TS := zn_in 862 (by decide +kernel) rfl
theorem zw_863 : Cond.selects "SurrogateTreeModel" ⟨"SurrogateTreeModel", "threshold", "(II)I"⟩ ⟨"SurrogateTreeModel", "threshold", "(II)I"⟩ ∈ zn_TS := zn_in 863 (by decide +kernel) rfl
theorem zw_864 : Cond.code ⟨"SurrogateTreeModel", "threshold", "(II)I"⟩ prog_13_method_31_code 3 (some .int) ∈ zn_TS := zn_in 864 (by decide +kernel) rfl
theorem zw_865 : Cond.methodLink "SurrogateTreeModel" 198 ⟨"SurrogateTreeModel", "rule", "(II)I"⟩ ∈ zn_TS := zn_in 865 (by decide +kernel) rfl
theorem zw_866 : Cond.methodLink "SurrogateTreeLaw" 60 ⟨"SurrogateTreeModel", "gain", "(I)J"⟩ ∈ zn_TS := zn_in 866 (by decide +kernel) rfl
theorem zw_867 : Cond.instanceMethod ⟨"SurrogateTreeModel", "gain", "(I)J"⟩ ∈ zn_TS := zn_in 867 (by decide +kernel) rfl
theorem zw_868 : Cond.selects "SurrogateTreeModel" ⟨"SurrogateTreeModel", "gain", "(I)J"⟩ ⟨"SurrogateTreeModel", "gain", "(I)J"⟩ ∈ zn_TS := zn_in 868 (by decide +kernel) rfl
theorem zw_869 : Cond.code ⟨"SurrogateTreeModel", "gain", "(I)J"⟩ prog_13_method_32_code 5 (some .long) ∈ zn_TS := zn_in 869 (by decide +kernel) rfl
theorem zw_870 : Cond.constantLong "SurrogateTreeModel" 201 4096 ∈ zn_TS := zn_in 870 (by decide +kernel) rfl
theorem zw_871 : Cond.methodLink "SurrogateTreeLaw" 64 ⟨"SurrogateTreeModel", "rowsOf", "(I)I"⟩ ∈ zn_TS := zn_in 871 (by decide +kernel) rfl
theorem zw_872 : Cond.instanceMethod ⟨"SurrogateTreeModel", "rowsOf", "(I)I"⟩ ∈ zn_TS := zn_in 872 (by decide +kernel) rfl
theorem zw_873 : Cond.selects "SurrogateTreeModel" ⟨"SurrogateTreeModel", "rowsOf", "(I)I"⟩ ⟨"SurrogateTreeModel", "rowsOf", "(I)I"⟩ ∈ zn_TS := zn_in 873 (by decide +kernel) rfl
theorem zw_874 : Cond.code ⟨"SurrogateTreeModel", "rowsOf", "(I)I"⟩ prog_13_method_33_code 2 (some .int) ∈ zn_TS := zn_in 874 (by decide +kernel) rfl
theorem zw_875 : Cond.methodLink "SurrogateTreeLaw" 68 ⟨"SurrogateTreeModel", "classOf", "(I)I"⟩ ∈ zn_TS := zn_in 875 (by decide +kernel) rfl
theorem zw_876 : Cond.instanceMethod ⟨"SurrogateTreeModel", "classOf", "(I)I"⟩ ∈ zn_TS := zn_in 876 (by decide +kernel) rfl
theorem zw_877 : Cond.selects "SurrogateTreeModel" ⟨"SurrogateTreeModel", "classOf", "(I)I"⟩ ⟨"SurrogateTreeModel", "classOf", "(I)I"⟩ ∈ zn_TS := zn_in 877 (by decide +kernel) rfl
theorem zw_878 : Cond.code ⟨"SurrogateTreeModel", "classOf", "(I)I"⟩ prog_13_method_34_code 2 (some .int) ∈ zn_TS := zn_in 878 (by decide +kernel) rfl
theorem zw_879 : Cond.methodLink "SurrogateTreeLaw" 72 ⟨"SurrogateTreeModel", "error", "(I)I"⟩ ∈ zn_TS := zn_in 879 (by decide +kernel) rfl
theorem zw_880 : Cond.instanceMethod ⟨"SurrogateTreeModel", "error", "(I)I"⟩ ∈ zn_TS := zn_in 880 (by decide +kernel) rfl
theorem zw_881 : Cond.selects "SurrogateTreeModel" ⟨"SurrogateTreeModel", "error", "(I)I"⟩ ⟨"SurrogateTreeModel", "error", "(I)I"⟩ ∈ zn_TS := zn_in 881 (by decide +kernel) rfl
theorem zw_882 : Cond.code ⟨"SurrogateTreeModel", "error", "(I)I"⟩ prog_13_method_35_code 2 (some .int) ∈ zn_TS := zn_in 882 (by decide +kernel) rfl
theorem zw_883 : Cond.methodLink "SurrogateTreeLaw" 77 ⟨"SurrogateTreeModel", "reach", "(III)I"⟩ ∈ zn_TS := zn_in 883 (by decide +kernel) rfl
theorem zw_884 : Cond.instanceMethod ⟨"SurrogateTreeModel", "reach", "(III)I"⟩ ∈ zn_TS := zn_in 884 (by decide +kernel) rfl
theorem zw_885 : Cond.selects "SurrogateTreeModel" ⟨"SurrogateTreeModel", "reach", "(III)I"⟩ ⟨"SurrogateTreeModel", "reach", "(III)I"⟩ ∈ zn_TS := zn_in 885 (by decide +kernel) rfl
theorem zw_886 : Cond.code ⟨"SurrogateTreeModel", "reach", "(III)I"⟩ prog_13_method_36_code 6 (some .int) ∈ zn_TS := zn_in 886 (by decide +kernel) rfl
theorem zw_887 : Cond.methodLink "SurrogateTreeLaw" 81 ⟨"SurrogateTreeModel", "cut", "(II)I"⟩ ∈ zn_TS := zn_in 887 (by decide +kernel) rfl
theorem zw_888 : Cond.instanceMethod ⟨"SurrogateTreeModel", "cut", "(II)I"⟩ ∈ zn_TS := zn_in 888 (by decide +kernel) rfl
theorem zw_889 : Cond.selects "SurrogateTreeModel" ⟨"SurrogateTreeModel", "cut", "(II)I"⟩ ⟨"SurrogateTreeModel", "cut", "(II)I"⟩ ∈ zn_TS := zn_in 889 (by decide +kernel) rfl
theorem zw_890 : Cond.code ⟨"SurrogateTreeModel", "cut", "(II)I"⟩ prog_13_method_37_code 5 (some .int) ∈ zn_TS := zn_in 890 (by decide +kernel) rfl
theorem zw_891 : Cond.methodLink "SurrogateTreeLaw" 85 ⟨"SurrogateTreeModel", "breakAt", "(I)I"⟩ ∈ zn_TS := zn_in 891 (by decide +kernel) rfl
theorem zw_892 : Cond.instanceMethod ⟨"SurrogateTreeModel", "breakAt", "(I)I"⟩ ∈ zn_TS := zn_in 892 (by decide +kernel) rfl
theorem zw_893 : Cond.selects "SurrogateTreeModel" ⟨"SurrogateTreeModel", "breakAt", "(I)I"⟩ ⟨"SurrogateTreeModel", "breakAt", "(I)I"⟩ ∈ zn_TS := zn_in 893 (by decide +kernel) rfl
theorem zw_894 : Cond.code ⟨"SurrogateTreeModel", "breakAt", "(I)I"⟩ prog_13_method_41_code 4 (some .int) ∈ zn_TS := zn_in 894 (by decide +kernel) rfl
theorem zw_895 : Cond.methodLink "SurrogateTreeModel" 206 ⟨"SurrogateTreeModel", "lowest", "(II)Z"⟩ ∈ zn_TS := zn_in 895 (by decide +kernel) rfl
theorem zw_896 : Cond.static ⟨"SurrogateTreeModel", "lowest", "(II)Z"⟩ ∈ zn_TS := zn_in 896 (by decide +kernel) rfl
theorem zw_897 : Cond.code ⟨"SurrogateTreeModel", "lowest", "(II)Z"⟩ prog_13_method_40_code 4 (some .boolean) ∈ zn_TS := zn_in 897 (by decide +kernel) rfl
theorem zw_898 : Cond.methodLink "SurrogateTreeModel" 209 ⟨"SurrogateTreeModel", "breaksAt", "(II)Z"⟩ ∈ zn_TS := zn_in 898 (by decide +kernel) rfl
theorem zw_900 : Cond.instanceMethod ⟨"SurrogateTreeModel", "breaksAt", "(II)Z"⟩ ∈ zn_TS := zn_in 900 (by decide +kernel) rfl
theorem zw_901 : Cond.code ⟨"SurrogateTreeModel", "breaksAt", "(II)Z"⟩ prog_13_method_38_code 4 (some .boolean) ∈ zn_TS := zn_in 901 (by decide +kernel) rfl
theorem zw_902 : Cond.methodLink "SurrogateTreeModel" 212 ⟨"SurrogateTreeModel", "insert", "(II)V"⟩ ∈ zn_TS := zn_in 902 (by decide +kernel) rfl
theorem zw_904 : Cond.instanceMethod ⟨"SurrogateTreeModel", "insert", "(II)V"⟩ ∈ zn_TS := zn_in 904 (by decide +kernel) rfl
theorem zw_905 : Cond.code ⟨"SurrogateTreeModel", "insert", "(II)V"⟩ prog_13_method_39_code 4 none ∈ zn_TS := zn_in 905 (by decide +kernel) rfl
theorem zw_906 : Cond.methodLink "SurrogateTreeLaw" 90 ⟨"SurrogateTreeModel", "tally", "()I"⟩ ∈ zn_TS := zn_in 906 (by decide +kernel) rfl
theorem zw_907 : Cond.instanceMethod ⟨"SurrogateTreeModel", "tally", "()I"⟩ ∈ zn_TS := zn_in 907 (by decide +kernel) rfl
theorem zw_908 : Cond.selects "SurrogateTreeModel" ⟨"SurrogateTreeModel", "tally", "()I"⟩ ⟨"SurrogateTreeModel", "tally", "()I"⟩ ∈ zn_TS := zn_in 908 (by decide +kernel) rfl
theorem zw_909 : Cond.code ⟨"SurrogateTreeModel", "tally", "()I"⟩ prog_13_method_42_code 4 (some .int) ∈ zn_TS := zn_in 909 (by decide +kernel) rfl
theorem zw_910 : Cond.methodLink "SurrogateTreeModel" 215 ⟨"SurrogateTreeModel", "reach", "(III)I"⟩ ∈ zn_TS := zn_in 910 (by decide +kernel) rfl
theorem zw_911 : Cond.methodLink "SurrogateTreeLaw" 94 ⟨"SurrogateTreeModel", "votes", "(II)I"⟩ ∈ zn_TS := zn_in 911 (by decide +kernel) rfl
theorem zw_912 : Cond.instanceMethod ⟨"SurrogateTreeModel", "votes", "(II)I"⟩ ∈ zn_TS := zn_in 912 (by decide +kernel) rfl
theorem zw_913 : Cond.selects "SurrogateTreeModel" ⟨"SurrogateTreeModel", "votes", "(II)I"⟩ ⟨"SurrogateTreeModel", "votes", "(II)I"⟩ ∈ zn_TS := zn_in 913 (by decide +kernel) rfl
theorem zw_914 : Cond.code ⟨"SurrogateTreeModel", "votes", "(II)I"⟩ prog_13_method_43_code 3 (some .int) ∈ zn_TS := zn_in 914 (by decide +kernel) rfl
theorem zw_915 : Cond.methodLink "SurrogateTreeLaw" 98 ⟨"SurrogateTreeModel", "wrong", "()I"⟩ ∈ zn_TS := zn_in 915 (by decide +kernel) rfl
theorem zw_916 : Cond.instanceMethod ⟨"SurrogateTreeModel", "wrong", "()I"⟩ ∈ zn_TS := zn_in 916 (by decide +kernel) rfl
theorem zw_917 : Cond.selects "SurrogateTreeModel" ⟨"SurrogateTreeModel", "wrong", "()I"⟩ ⟨"SurrogateTreeModel", "wrong", "()I"⟩ ∈ zn_TS := zn_in 917 (by decide +kernel) rfl
theorem zw_918 : Cond.code ⟨"SurrogateTreeModel", "wrong", "()I"⟩ prog_13_method_44_code 5 (some .int) ∈ zn_TS := zn_in 918 (by decide +kernel) rfl
theorem zw_919 : Cond.constantLong "SurrogateTreeLaw" 23 4294967295 ∈ zn_TS := zn_in 919 (by decide +kernel) rfl
theorem zn_uws0 : ∀ w ∈ u_ws (zn_C 0) (zn_T 0) (zn_n 0), w ∈ zn_TS := by
  intro w hw
  obtain ⟨k, hk, rfl⟩ := List.mem_map.mp hw
  have hk : k < 13 := List.mem_range.mp hk
  match k, hk with
  | 0, _ => exact zw_306
  | 1, _ => exact zw_308
  | 2, _ => exact zw_310
  | 3, _ => exact zw_312
  | 4, _ => exact zw_314
  | 5, _ => exact zw_316
  | 6, _ => exact zw_318
  | 7, _ => exact zw_320
  | 8, _ => exact zw_322
  | 9, _ => exact zw_324
  | 10, _ => exact zw_326
  | 11, _ => exact zw_328
  | 12, _ => exact zw_330
theorem zn_uws1 : ∀ w ∈ u_ws (zn_C 1) (zn_T 1) (zn_n 1), w ∈ zn_TS := by
  intro w hw
  obtain ⟨k, hk, rfl⟩ := List.mem_map.mp hw
  have hk : k < 4 := List.mem_range.mp hk
  match k, hk with
  | 0, _ => exact zw_43
  | 1, _ => exact zw_45
  | 2, _ => exact zw_47
  | 3, _ => exact zw_49
theorem zn_uws2 : ∀ w ∈ u_ws (zn_C 2) (zn_T 2) (zn_n 2), w ∈ zn_TS := by
  intro w hw
  obtain ⟨k, hk, rfl⟩ := List.mem_map.mp hw
  have hk : k < 1 := List.mem_range.mp hk
  match k, hk with
  | 0, _ => exact zw_62
theorem zn_uws3 : ∀ w ∈ u_ws (zn_C 3) (zn_T 3) (zn_n 3), w ∈ zn_TS := by
  intro w hw
  obtain ⟨k, hk, rfl⟩ := List.mem_map.mp hw
  have hk : k < 9 := List.mem_range.mp hk
  match k, hk with
  | 0, _ => exact zw_143
  | 1, _ => exact zw_145
  | 2, _ => exact zw_147
  | 3, _ => exact zw_149
  | 4, _ => exact zw_151
  | 5, _ => exact zw_153
  | 6, _ => exact zw_155
  | 7, _ => exact zw_157
  | 8, _ => exact zw_159
theorem zn_uws4 : ∀ w ∈ u_ws (zn_C 4) (zn_T 4) (zn_n 4), w ∈ zn_TS := by
  intro w hw
  obtain ⟨k, hk, rfl⟩ := List.mem_map.mp hw
  have hk : k < 2 := List.mem_range.mp hk
  match k, hk with
  | 0, _ => exact zw_85
  | 1, _ => exact zw_87
theorem zn_uws5 : ∀ w ∈ u_ws (zn_C 5) (zn_T 5) (zn_n 5), w ∈ zn_TS := by
  intro w hw
  obtain ⟨k, hk, rfl⟩ := List.mem_map.mp hw
  have hk : k < 4 := List.mem_range.mp hk
  match k, hk with
  | 0, _ => exact zw_108
  | 1, _ => exact zw_110
  | 2, _ => exact zw_112
  | 3, _ => exact zw_114
theorem zn_uws6 : ∀ w ∈ u_ws (zn_C 6) (zn_T 6) (zn_n 6), w ∈ zn_TS := by
  intro w hw
  obtain ⟨k, hk, rfl⟩ := List.mem_map.mp hw
  have hk : k < 1 := List.mem_range.mp hk
  match k, hk with
  | 0, _ => exact zw_175
theorem zn_uws7 : ∀ w ∈ u_ws (zn_C 7) (zn_T 7) (zn_n 7), w ∈ zn_TS := by
  intro w hw
  obtain ⟨k, hk, rfl⟩ := List.mem_map.mp hw
  have hk : k < 6 := List.mem_range.mp hk
  match k, hk with
  | 0, _ => exact zw_205
  | 1, _ => exact zw_207
  | 2, _ => exact zw_209
  | 3, _ => exact zw_211
  | 4, _ => exact zw_213
  | 5, _ => exact zw_215
theorem zn_uws8 : ∀ w ∈ u_ws (zn_C 8) (zn_T 8) (zn_n 8), w ∈ zn_TS := by
  intro w hw
  obtain ⟨k, hk, rfl⟩ := List.mem_map.mp hw
  have hk : k < 2 := List.mem_range.mp hk
  match k, hk with
  | 0, _ => exact zw_192
  | 1, _ => exact zw_194
theorem zn_uws9 : ∀ w ∈ u_ws (zn_C 9) (zn_T 9) (zn_n 9), w ∈ zn_TS := by
  intro w hw
  obtain ⟨k, hk, rfl⟩ := List.mem_map.mp hw
  have hk : k < 2 := List.mem_range.mp hk
  match k, hk with
  | 0, _ => exact zw_230
  | 1, _ => exact zw_232
theorem zn_uws10 : ∀ w ∈ u_ws (zn_C 10) (zn_T 10) (zn_n 10), w ∈ zn_TS := by
  intro w hw
  obtain ⟨k, hk, rfl⟩ := List.mem_map.mp hw
  have hk : k < 6 := List.mem_range.mp hk
  match k, hk with
  | 0, _ => exact zw_252
  | 1, _ => exact zw_254
  | 2, _ => exact zw_256
  | 3, _ => exact zw_258
  | 4, _ => exact zw_260
  | 5, _ => exact zw_262
theorem zn_uws11 : ∀ w ∈ u_ws (zn_C 11) (zn_T 11) (zn_n 11), w ∈ zn_TS := by
  intro w hw
  obtain ⟨k, hk, rfl⟩ := List.mem_map.mp hw
  have hk : k < 34 := List.mem_range.mp hk
  match k, hk with
  | 0, _ => exact zw_675
  | 1, _ => exact zw_677
  | 2, _ => exact zw_679
  | 3, _ => exact zw_681
  | 4, _ => exact zw_683
  | 5, _ => exact zw_685
  | 6, _ => exact zw_687
  | 7, _ => exact zw_689
  | 8, _ => exact zw_691
  | 9, _ => exact zw_693
  | 10, _ => exact zw_695
  | 11, _ => exact zw_697
  | 12, _ => exact zw_699
  | 13, _ => exact zw_701
  | 14, _ => exact zw_703
  | 15, _ => exact zw_705
  | 16, _ => exact zw_707
  | 17, _ => exact zw_709
  | 18, _ => exact zw_711
  | 19, _ => exact zw_713
  | 20, _ => exact zw_715
  | 21, _ => exact zw_717
  | 22, _ => exact zw_719
  | 23, _ => exact zw_721
  | 24, _ => exact zw_723
  | 25, _ => exact zw_725
  | 26, _ => exact zw_727
  | 27, _ => exact zw_729
  | 28, _ => exact zw_731
  | 29, _ => exact zw_733
  | 30, _ => exact zw_735
  | 31, _ => exact zw_737
  | 32, _ => exact zw_739
  | 33, _ => exact zw_741
  | k + 34, h => exact absurd h (by omega)
theorem zn_uws (ci : Nat) (h : ci < zn_nc) : ∀ w ∈ u_ws (zn_C ci) (zn_T ci) (zn_n ci), w ∈ zn_TS := by
  match ci, h with
  | 0, _ => exact zn_uws0
  | 1, _ => exact zn_uws1
  | 2, _ => exact zn_uws2
  | 3, _ => exact zn_uws3
  | 4, _ => exact zn_uws4
  | 5, _ => exact zn_uws5
  | 6, _ => exact zn_uws6
  | 7, _ => exact zn_uws7
  | 8, _ => exact zn_uws8
  | 9, _ => exact zn_uws9
  | 10, _ => exact zn_uws10
  | 11, _ => exact zn_uws11
theorem zn_tyok0 : ∀ k, k < zn_n 0 → parseFieldDescriptor (zn_T 0 k).2.2.1 = some (zn_ty 0 k) := by decide +kernel
theorem zn_nm0 : ∀ a, a < zn_n 0 → ∀ b, b < zn_n 0 → a ≠ b → (zn_T 0 a).2.1 ≠ (zn_T 0 b).2.1 := by decide +kernel
theorem zn_tyok1 : ∀ k, k < zn_n 1 → parseFieldDescriptor (zn_T 1 k).2.2.1 = some (zn_ty 1 k) := by decide +kernel
theorem zn_nm1 : ∀ a, a < zn_n 1 → ∀ b, b < zn_n 1 → a ≠ b → (zn_T 1 a).2.1 ≠ (zn_T 1 b).2.1 := by decide +kernel
theorem zn_tyok2 : ∀ k, k < zn_n 2 → parseFieldDescriptor (zn_T 2 k).2.2.1 = some (zn_ty 2 k) := by decide +kernel
theorem zn_nm2 : ∀ a, a < zn_n 2 → ∀ b, b < zn_n 2 → a ≠ b → (zn_T 2 a).2.1 ≠ (zn_T 2 b).2.1 := by decide +kernel
theorem zn_tyok3 : ∀ k, k < zn_n 3 → parseFieldDescriptor (zn_T 3 k).2.2.1 = some (zn_ty 3 k) := by decide +kernel
theorem zn_nm3 : ∀ a, a < zn_n 3 → ∀ b, b < zn_n 3 → a ≠ b → (zn_T 3 a).2.1 ≠ (zn_T 3 b).2.1 := by decide +kernel
theorem zn_tyok4 : ∀ k, k < zn_n 4 → parseFieldDescriptor (zn_T 4 k).2.2.1 = some (zn_ty 4 k) := by decide +kernel
theorem zn_nm4 : ∀ a, a < zn_n 4 → ∀ b, b < zn_n 4 → a ≠ b → (zn_T 4 a).2.1 ≠ (zn_T 4 b).2.1 := by decide +kernel
theorem zn_tyok5 : ∀ k, k < zn_n 5 → parseFieldDescriptor (zn_T 5 k).2.2.1 = some (zn_ty 5 k) := by decide +kernel
theorem zn_nm5 : ∀ a, a < zn_n 5 → ∀ b, b < zn_n 5 → a ≠ b → (zn_T 5 a).2.1 ≠ (zn_T 5 b).2.1 := by decide +kernel
theorem zn_tyok6 : ∀ k, k < zn_n 6 → parseFieldDescriptor (zn_T 6 k).2.2.1 = some (zn_ty 6 k) := by decide +kernel
theorem zn_nm6 : ∀ a, a < zn_n 6 → ∀ b, b < zn_n 6 → a ≠ b → (zn_T 6 a).2.1 ≠ (zn_T 6 b).2.1 := by decide +kernel
theorem zn_tyok7 : ∀ k, k < zn_n 7 → parseFieldDescriptor (zn_T 7 k).2.2.1 = some (zn_ty 7 k) := by decide +kernel
theorem zn_nm7 : ∀ a, a < zn_n 7 → ∀ b, b < zn_n 7 → a ≠ b → (zn_T 7 a).2.1 ≠ (zn_T 7 b).2.1 := by decide +kernel
theorem zn_tyok8 : ∀ k, k < zn_n 8 → parseFieldDescriptor (zn_T 8 k).2.2.1 = some (zn_ty 8 k) := by decide +kernel
theorem zn_nm8 : ∀ a, a < zn_n 8 → ∀ b, b < zn_n 8 → a ≠ b → (zn_T 8 a).2.1 ≠ (zn_T 8 b).2.1 := by decide +kernel
theorem zn_tyok9 : ∀ k, k < zn_n 9 → parseFieldDescriptor (zn_T 9 k).2.2.1 = some (zn_ty 9 k) := by decide +kernel
theorem zn_nm9 : ∀ a, a < zn_n 9 → ∀ b, b < zn_n 9 → a ≠ b → (zn_T 9 a).2.1 ≠ (zn_T 9 b).2.1 := by decide +kernel
theorem zn_tyok10 : ∀ k, k < zn_n 10 → parseFieldDescriptor (zn_T 10 k).2.2.1 = some (zn_ty 10 k) := by decide +kernel
theorem zn_nm10 : ∀ a, a < zn_n 10 → ∀ b, b < zn_n 10 → a ≠ b → (zn_T 10 a).2.1 ≠ (zn_T 10 b).2.1 := by decide +kernel
theorem zn_tyok11 : ∀ k, k < zn_n 11 → parseFieldDescriptor (zn_T 11 k).2.2.1 = some (zn_ty 11 k) := by decide +kernel
theorem zn_nm11 : ∀ a, a < zn_n 11 → ∀ b, b < zn_n 11 → a ≠ b → (zn_T 11 a).2.1 ≠ (zn_T 11 b).2.1 := by decide +kernel
theorem zn_tyok (ci : Nat) (h : ci < zn_nc) : ∀ k, k < zn_n ci → parseFieldDescriptor (zn_T ci k).2.2.1 = some (zn_ty ci k) := by
  match ci, h with
  | 0, _ => exact zn_tyok0
  | 1, _ => exact zn_tyok1
  | 2, _ => exact zn_tyok2
  | 3, _ => exact zn_tyok3
  | 4, _ => exact zn_tyok4
  | 5, _ => exact zn_tyok5
  | 6, _ => exact zn_tyok6
  | 7, _ => exact zn_tyok7
  | 8, _ => exact zn_tyok8
  | 9, _ => exact zn_tyok9
  | 10, _ => exact zn_tyok10
  | 11, _ => exact zn_tyok11
theorem zn_nm (ci : Nat) (h : ci < zn_nc) : ∀ a, a < zn_n ci → ∀ b, b < zn_n ci → a ≠ b → (zn_T ci a).2.1 ≠ (zn_T ci b).2.1 := by
  match ci, h with
  | 0, _ => exact zn_nm0
  | 1, _ => exact zn_nm1
  | 2, _ => exact zn_nm2
  | 3, _ => exact zn_nm3
  | 4, _ => exact zn_nm4
  | 5, _ => exact zn_nm5
  | 6, _ => exact zn_nm6
  | 7, _ => exact zn_nm7
  | 8, _ => exact zn_nm8
  | 9, _ => exact zn_nm9
  | 10, _ => exact zn_nm10
  | 11, _ => exact zn_nm11
/-- words that go no farther by themselves -/
def zn_B (U : State) : Prop := va_AO "SurrogateTree$Node" U ∧ va_AO "SurrogateTree$StandIn" U ∧ va_Nw (.methodLinkNest "SurrogateTree$Node" 24 ⟨"SurrogateTree$StandIn", "<init>", "()V"⟩ "SurrogateTree") U ∧ va_Nw (.methodLinkNest "SurrogateTree$StandInSearch" 20 ⟨"SurrogateTree$StandIn", "<init>", "()V"⟩ "SurrogateTree") U
theorem zn_B_warm {s U : State} (hW : s.WarmedH U.vm) (h : zn_B s) : zn_B U := ⟨h.1.moved hW.alike, h.2.1.moved hW.alike, h.2.2.1.warmM hW, h.2.2.2.warmM hW⟩
theorem zn_B_same {u U : State} (e : u.vm = U.vm) (h : zn_B u) : zn_B U := ⟨va_AO.moved (e ▸ Vm.Alike.refl u.vm) h.1, va_AO.moved (e ▸ Vm.Alike.refl u.vm) h.2.1, h.2.2.1.same rfl e, h.2.2.2.same rfl e⟩
end
section
/-! Own layer, 1: the machine seen through one flat picture of all cells from a base on. K: what a cell is (0, class) or (1.., length); P: its references; V: its numbers. -/
abbrev zg_K : Type := Nat → Nat × Nat
abbrev zg_P : Type := Nat → Nat → Option Nat
abbrev zg_V : Type := Nat → Nat → Int
abbrev zg_Q : Type := Option Value → zg_K → Nat → zg_P → zg_V → Prop
/-- launch; base; class numbers; array classes -/
abbrev zg_C : Type := Launch × Nat × va_G × (Nat → ClassId)
/-- name, bytes, locals, answer -/
abbrev zg_M : Type := MethodName × ByteArray × Nat × Option FieldType
def zg_i (z : Int) : Value := .int (Int32.ofInt z)
def zg_l (z : Int) : Value := .long (Int64.ofInt z)
def zg_r (Γ : zg_C) (a : Nat) : Value := .ref (Γ.2.1 + a)
def zg_o (Γ : zg_C) (r : Option Nat) : Value := va_rf (r.map (fun a => Γ.2.1 + a))
def zg_fv (Γ : zg_C) (ty : FieldType) (z : Int) (r : Option Nat) : Value := match ty with
  | .int => zg_i z
  | .long => zg_l z
  | .boolean => zg_i z
  | _ => zg_o Γ r
def zg_fs (Γ : zg_C) (ci : Nat) (z : Nat → Int) (r : Nat → Option Nat) : List Value := (List.range (zn_n ci)).map (fun k => zg_fv Γ (zn_ty ci k) (z k) (r k))
def zg_e (Γ : zg_C) (kd : Nat × Nat) (z : Nat → Int) (r : Nat → Option Nat) : va_E := match kd.1 with
  | 0 => .inr (kd.2, zg_fs Γ kd.2 z r)
  | 1 => .inl (Γ.2.2.2 0, kd.2, .inl (fun j => Int32.ofInt (z j)))
  | 2 => .inl (Γ.2.2.2 1, kd.2, .inr (.inl (fun j => Int64.ofInt (z j))))
  | 3 => .inl (Γ.2.2.2 2, kd.2, .inl (fun j => Int32.ofInt (z j)))
  | t + 4 => .inl (Γ.2.2.2 (t + 3), kd.2, .inr (.inr (.inr (.inr (fun j => (r j).map (fun a => Γ.2.1 + a))))))
def zg_w (Γ : zg_C) (K : zg_K) (N : Nat) (P : zg_P) (V : zg_V) : va_W := (List.range N).map (fun a => (Γ.2.1 + a, zg_e Γ (K a) (V a) (P a)))
def zg_tys (Γ : zg_C) : List (ClassId × FieldType) := [(Γ.2.2.2 0, .int), (Γ.2.2.2 1, .long), (Γ.2.2.2 2, .boolean)] ++ (List.range zn_ra.length).map (fun t => (Γ.2.2.2 (t + 3), zn_ra.getD t .int))
def zg_d (Γ : zg_C) (K : zg_K) (N : Nat) (P : zg_P) (V : zg_V) (H : Heap) : Prop := va_P Γ.2.2.1 zn_cl (zg_w Γ K N P V) H ∧ H.size = Γ.2.1 + N
/-- what the tables say -/
def zg_T (Γ : zg_C) (U : State) : Prop := va_K Γ.2.2.1 zn_cl (zg_tys Γ) U ∧ zn_B U
abbrev zg_A (Γ : zg_C) : Nat → Prop := fun q => Γ.2.1 ≤ q
def zg_F (Γ : zg_C) (Q : zg_Q) : Array Value → State → Outcome → State → Prop := fun _ u oc t =>
  (∃ (r : Option Value) (K : zg_K) (N : Nat) (P : zg_P) (V : zg_V), oc = .returned r ∧ Q r K N P V ∧ zg_d Γ K N P V t.heap) ∧ va_F (zg_A Γ) u t
def zg_ws (μ : zg_M) : List Cond := .code μ.1 μ.2.1 μ.2.2.1 μ.2.2.2 :: zn_TS
def zg_rm (d mc ms : Nat) : Room := { frames := d, cells := mc, slots := ms, locals := 36 * d }
/-- a method's end -/
def zg_Ω (Γ : zg_C) (Q : zg_Q) (mc ms : Nat) : List Frame → Array Value → State → State → Prop := fun below args s => MQ below (zg_F Γ Q) args s mc ms (zg_A Γ)
def zg_lh (lz : Array Slot) (nL : Nat) (ls : List (Option Value)) : Prop := lz.size = nL ∧ lv_wf lz ∧ ∀ (i : Nat) (v : Value), ls[i]? = some (some v) → lz[i]? = some (.val v)
def zg_X (Γ : zg_C) (Ξ : State → Prop) (μ : zg_M) (p : Program) (s : State) (m : MethodId) (args : Array Value) (meth : Method) (c : Code) : Prop :=
  p.tables.exec = Jvm.exec ∧ c.code = μ.2.1 ∧ c.maxLocals = μ.2.2.1 ∧ meth.sig.returnType = μ.2.2.2 ∧ meth.locks = false ∧ (∀ w ∈ zn_TS, w.before args s = true) ∧ s.vm.findClass μ.1.cls = some m.cls ∧ meth.name = μ.1.name ∧ zg_T Γ s ∧ Γ.2.1 ≤ s.heap.size ∧ Ξ s
def zg_Y (Γ : zg_C) (nL : Nat) (R : Room) (bc bs : Nat) (ls : List (Option Value)) (K : zg_K) (N : Nat) (P : zg_P) (V : zg_V) (s : State) (H : Heap) (locs : List Loc) (cells slots : Nat) (lz : Array Slot) : Prop :=
  zg_lh lz nL ls ∧ zg_d Γ K N P V H ∧ va_S (zg_A Γ) s.heap H locs ∧ cells + bc ≤ R.cells ∧ slots + bs ≤ R.slots
/-- from this place of method μ, with these locals, stack and picture, the machine comes to an end with Ω -/
def zg_G (Γ : zg_C) (Ξ : State → Prop) (μ : zg_M) (R : Room) (Ω : List Frame → Array Value → State → State → Prop) (bc bs pc : Nat) (ls : List (Option Value)) (st : List Value) (K : zg_K) (N : Nat) (P : zg_P) (V : zg_V) : Prop :=
  ∀ (p : Program) (e : Env) (s : State) (m : MethodId) (args : Array Value) (below : List Frame) (meth : Method) (c : Code) (H : Heap) (locs : List Loc) (cells slots : Nat) (lz : Array Slot),
    zg_X Γ Ξ μ p s m args meth c → zg_Y Γ μ.2.2.1 R bc bs ls K N P V s H locs cells slots lz →
      W p Γ.1 e R s m args below meth c H locs cells slots (Ω below args s) (F0 m pc lz st)
/-- a method's contract -/
def zg_S (Γ : zg_C) (μ : zg_M) (d mc ms : Nat) (args : List Value) (K : zg_K) (N : Nat) (P : zg_P) (V : zg_V) (Q : zg_Q) : Prop :=
  Met Γ.1 μ.1 (zg_ws μ) (zg_rm d mc ms) (va_Pc args (fun U => zg_T Γ U ∧ zg_d Γ K N P V U.heap)) (zg_F Γ Q) mc ms (zg_A Γ)
def zg_u (V : zg_V) (a j : Nat) (x : Int) : zg_V := fun a' j' => if a' = a then if j' = j then x else V a' j' else V a' j'
def zg_up (P : zg_P) (a j : Nat) (x : Option Nat) : zg_P := fun a' j' => if a' = a then if j' = j then x else P a' j' else P a' j'
/-! ### the picture's list -/
theorem zg_w_at (Γ : zg_C) (K : zg_K) {N a : Nat} (P : zg_P) (V : zg_V) (h : a < N) : (zg_w Γ K N P V)[a]? = some (Γ.2.1 + a, zg_e Γ (K a) (V a) (P a)) := by
  simp [zg_w, List.getElem?_map, List.getElem?_range h]
theorem zg_w_set {Γ : zg_C} {K K' : zg_K} {N a : Nat} {P P' : zg_P} {V V' : zg_V} {ee : va_E} (h : a < N) (he : zg_e Γ (K' a) (V' a) (P' a) = ee) (ho : ∀ x, x ≠ a → K' x = K x ∧ V' x = V x ∧ P' x = P x) : (zg_w Γ K N P V).set a (Γ.2.1 + a, ee) = zg_w Γ K' N P' V' := by
  subst he
  apply List.ext_getElem?
  intro i
  rw [List.getElem?_set]
  by_cases hi : i < N
  · rw [zg_w_at Γ K' P' V' hi]
    by_cases e : a = i
    · subst e
      rw [if_pos rfl, if_pos (by simpa [zg_w] using h)]
    · rw [if_neg e, zg_w_at Γ K P V hi]
      obtain ⟨h1, h2, h3⟩ := ho i (fun q => e q.symm)
      rw [h1, h2, h3]
  · have h1 : (zg_w Γ K' N P' V')[i]? = none := by simp [zg_w]; omega
    have h2 : (zg_w Γ K N P V)[i]? = none := by simp [zg_w]; omega
    rw [h1, if_neg (by omega), h2]
theorem zg_w_D (Γ : zg_C) (K : zg_K) (N : Nat) (P : zg_P) (V : zg_V) : va_D (zg_A Γ) (zg_w Γ K N P V) := by
  refine ⟨fun i j x y hi hj he => ?_, fun k q hk => ?_⟩
  · have h1 : i < N := by have := (List.getElem?_eq_some_iff.mp hi).1; simpa [zg_w] using this
    have h2 : j < N := by have := (List.getElem?_eq_some_iff.mp hj).1; simpa [zg_w] using this
    rw [zg_w_at Γ K P V h1] at hi
    rw [zg_w_at Γ K P V h2] at hj
    cases hi
    cases hj
    have he' : Γ.2.1 + i = Γ.2.1 + j := he
    omega
  · have h1 : k < N := by have := (List.getElem?_eq_some_iff.mp hk).1; simpa [zg_w] using this
    rw [zg_w_at Γ K P V h1] at hk
    cases hk
    show Γ.2.1 ≤ Γ.2.1 + k
    omega
theorem zg_e0 {Γ : zg_C} {kd : Nat × Nat} {ci : Nat} (h : kd = (0, ci)) (z : Nat → Int) (r : Nat → Option Nat) : zg_e Γ kd z r = .inr (ci, zg_fs Γ ci z r) := by subst h; rfl
theorem zg_e1 {Γ : zg_C} {kd : Nat × Nat} {n : Nat} (h : kd = (1, n)) (z : Nat → Int) (r : Nat → Option Nat) : zg_e Γ kd z r = .inl (Γ.2.2.2 0, n, .inl (fun j => Int32.ofInt (z j))) := by subst h; rfl
theorem zg_e2 {Γ : zg_C} {kd : Nat × Nat} {n : Nat} (h : kd = (2, n)) (z : Nat → Int) (r : Nat → Option Nat) : zg_e Γ kd z r = .inl (Γ.2.2.2 1, n, .inr (.inl (fun j => Int64.ofInt (z j)))) := by subst h; rfl
theorem zg_e3 {Γ : zg_C} {kd : Nat × Nat} {n : Nat} (h : kd = (3, n)) (z : Nat → Int) (r : Nat → Option Nat) : zg_e Γ kd z r = .inl (Γ.2.2.2 2, n, .inl (fun j => Int32.ofInt (z j))) := by subst h; rfl
theorem zg_e4 {Γ : zg_C} {kd : Nat × Nat} {n t : Nat} (h : kd = (t + 4, n)) (z : Nat → Int) (r : Nat → Option Nat) : zg_e Γ kd z r = .inl (Γ.2.2.2 (t + 3), n, .inr (.inr (.inr (.inr (fun j => (r j).map (fun a => Γ.2.1 + a)))))) := by subst h; rfl
theorem zg_fs_at (Γ : zg_C) {ci k : Nat} (h : k < zn_n ci) (z : Nat → Int) (r : Nat → Option Nat) : (zg_fs Γ ci z r)[k]? = some (zg_fv Γ (zn_ty ci k) (z k) (r k)) := by
  simp [zg_fs, List.getElem?_map, List.getElem?_range h]
theorem zg_fs_len (Γ : zg_C) (ci : Nat) (z : Nat → Int) (r : Nat → Option Nat) : (zg_fs Γ ci z r).length = zn_n ci := by simp [zg_fs]
theorem zg_fs_set {Γ : zg_C} {ci k : Nat} {z z' : Nat → Int} {r r' : Nat → Option Nat} {v : Value} (h : k < zn_n ci) (hv : zg_fv Γ (zn_ty ci k) (z' k) (r' k) = v) (ho : ∀ x, x ≠ k → z' x = z x ∧ r' x = r x) : (zg_fs Γ ci z r).set k v = zg_fs Γ ci z' r' := by
  subst hv
  apply List.ext_getElem?
  intro i
  rw [List.getElem?_set]
  by_cases hi : i < zn_n ci
  · rw [zg_fs_at Γ hi z' r']
    by_cases e : k = i
    · subst e
      rw [if_pos rfl, if_pos (by rw [zg_fs_len]; exact h)]
    · rw [if_neg e, zg_fs_at Γ hi z r]
      obtain ⟨h1, h2⟩ := ho i (fun q => e q.symm)
      rw [h1, h2]
  · have h1 : (zg_fs Γ ci z' r')[i]? = none := by simp [zg_fs]; omega
    have h2 : (zg_fs Γ ci z r)[i]? = none := by simp [zg_fs]; omega
    rw [h1, if_neg (by omega), h2]
/-! ### numbers -/
theorem zg_lt {a b : Int} (ha : -2147483648 ≤ a ∧ a < 2147483648) (hb : -2147483648 ≤ b ∧ b < 2147483648) : Int32.ofInt a < Int32.ofInt b ↔ a < b := by
  rw [Int32.lt_iff_toInt_lt, Int32.toInt_ofInt_of_le (by omega) (by omega), Int32.toInt_ofInt_of_le (by omega) (by omega)]
theorem zg_le {a b : Int} (ha : -2147483648 ≤ a ∧ a < 2147483648) (hb : -2147483648 ≤ b ∧ b < 2147483648) : Int32.ofInt a ≤ Int32.ofInt b ↔ a ≤ b := by
  rw [Int32.le_iff_toInt_le, Int32.toInt_ofInt_of_le (by omega) (by omega), Int32.toInt_ofInt_of_le (by omega) (by omega)]
theorem zg_eq {a b : Int} (ha : -2147483648 ≤ a ∧ a < 2147483648) (hb : -2147483648 ≤ b ∧ b < 2147483648) : Int32.ofInt a = Int32.ofInt b ↔ a = b := by
  rw [← Int32.toInt_inj, Int32.toInt_ofInt_of_le (by omega) (by omega), Int32.toInt_ofInt_of_le (by omega) (by omega)]
theorem zg_z0 : (0 : Int32) = Int32.ofInt 0 := rfl
theorem zg_lt0 {a : Int} (ha : -2147483648 ≤ a ∧ a < 2147483648) : Int32.ofInt a < 0 ↔ a < 0 := by rw [zg_z0]; exact zg_lt ha (by omega)
theorem zg_0lt {a : Int} (ha : -2147483648 ≤ a ∧ a < 2147483648) : 0 < Int32.ofInt a ↔ 0 < a := by rw [zg_z0]; exact zg_lt (by omega) ha
theorem zg_le0 {a : Int} (ha : -2147483648 ≤ a ∧ a < 2147483648) : Int32.ofInt a ≤ 0 ↔ a ≤ 0 := by rw [zg_z0]; exact zg_le ha (by omega)
theorem zg_0le {a : Int} (ha : -2147483648 ≤ a ∧ a < 2147483648) : 0 ≤ Int32.ofInt a ↔ 0 ≤ a := by rw [zg_z0]; exact zg_le (by omega) ha
theorem zg_eq0 {a : Int} (ha : -2147483648 ≤ a ∧ a < 2147483648) : Int32.ofInt a = 0 ↔ a = 0 := by rw [zg_z0]; exact zg_eq ha (by omega)
theorem zg_nat {z : Int} {j : Nat} (hz : z = (j : Int)) (hj : j < 2147483648) : (Int32.ofInt z).toNatClampNeg = j := by
  subst hz
  rw [Int32.toNatClampNeg_ofInt_of_le (by omega) (by omega)]
  simp
theorem zg_in {z : Int} {j n : Nat} (hz : z = (j : Int)) (hj : j < n) (hn : n ≤ 2147483648) : vp_in (Int32.ofInt z) n := by
  intro h
  rcases h with h | h
  · rw [zg_lt0 (by omega)] at h
    omega
  · rw [zg_nat hz (by omega)] at h
    omega
/-! ### locals -/
def zg_pr (ls : List (Option Value)) : List (Nat × Value) := (List.range ls.length).filterMap (fun i => (ls[i]?.join).map (fun v => (i, v)))
theorem zg_pr_mem {ls : List (Option Value)} {i : Nat} {v : Value} : (i, v) ∈ zg_pr ls ↔ ls[i]? = some (some v) := by
  unfold zg_pr
  rw [List.mem_filterMap]
  constructor
  · rintro ⟨j, -, h⟩
    cases hj : ls[j]? with
    | none => rw [hj] at h; simp at h
    | some o =>
      cases o with
      | none => rw [hj] at h; simp at h
      | some w =>
        rw [hj] at h
        simp at h
        obtain ⟨h1, h2⟩ := h
        subst h1; subst h2
        exact hj
  · intro h
    refine ⟨i, List.mem_range.mpr (List.getElem?_eq_some_iff.mp h).1, ?_⟩
    rw [h]
    rfl
theorem zg_lh_has {lz : Array Slot} {nL : Nat} {ls : List (Option Value)} (h : zg_lh lz nL ls) : lv_has lz nL (zg_pr ls) := ⟨h.1, h.2.1, fun q hq => h.2.2 q.1 q.2 (zg_pr_mem.mp hq)⟩
theorem zg_lh_store {lz : Array Slot} {nL : Nat} {ls : List (Option Value)} {i : Nat} {v : Value} (hc : ∀ w, 0 < i → ls[i - 1]? = some (some w) → w.category = 1)
    (h : lv_has lz nL ((i, v) :: (zg_pr ls).filter (fun q => !(q.1 == i) && !(q.1 + 1 == i && q.2.category == 2)))) : zg_lh lz nL (ls.set i (some v)) := by
  refine ⟨h.1, h.2.1, fun j w hj => ?_⟩
  rw [List.getElem?_set] at hj
  by_cases e : i = j
  · subst e
    rw [if_pos rfl] at hj
    split at hj
    · cases hj
      exact h.2.2 (i, v) List.mem_cons_self
    · cases hj
  · rw [if_neg e] at hj
    refine h.2.2 (j, w) (List.mem_cons_of_mem _ (List.mem_filter.mpr ⟨zg_pr_mem.mpr hj, ?_⟩))
    have h1 : ¬ (j + 1 = i ∧ w.category = 2) := by
      rintro ⟨q1, q2⟩
      have := hc w (by omega) (by rw [← q1]; simpa using hj)
      omega
    simp only [Bool.and_eq_true, Bool.not_eq_true', beq_eq_false_iff_ne, ne_eq, Bool.and_eq_false_iff]
    refine ⟨fun q => e q.symm, ?_⟩
    by_cases q1 : j + 1 = i
    · exact Or.inr fun q2 => h1 ⟨q1, q2⟩
    · exact Or.inl q1
theorem zg_lh_store2 {lz : Array Slot} {nL : Nat} {ls : List (Option Value)} {i : Nat} {v : Value} (hc : ∀ w, 0 < i → ls[i - 1]? = some (some w) → w.category = 1)
    (h : lv_has lz nL ((i, v) :: (zg_pr ls).filter (fun q => !(q.1 == i) && (!(q.1 == i + 1) && !(q.1 + 1 == i && q.2.category == 2))))) : zg_lh lz nL ((ls.set i (some v)).set (i + 1) none) := by
  refine ⟨h.1, h.2.1, fun j w hj => ?_⟩
  rw [List.getElem?_set] at hj
  by_cases e1 : i + 1 = j
  · rw [if_pos e1] at hj
    split at hj <;> cases hj
  · rw [if_neg e1, List.getElem?_set] at hj
    by_cases e : i = j
    · subst e
      rw [if_pos rfl] at hj
      split at hj
      · cases hj
        exact h.2.2 (i, v) List.mem_cons_self
      · cases hj
    · rw [if_neg e] at hj
      refine h.2.2 (j, w) (List.mem_cons_of_mem _ (List.mem_filter.mpr ⟨zg_pr_mem.mpr hj, ?_⟩))
      have h1 : ¬ (j + 1 = i ∧ w.category = 2) := by
        rintro ⟨q1, q2⟩
        have := hc w (by omega) (by rw [← q1]; simpa using hj)
        omega
      simp only [Bool.and_eq_true, Bool.not_eq_true', beq_eq_false_iff_ne, ne_eq, Bool.and_eq_false_iff]
      refine ⟨fun q => e q.symm, fun q => e1 q.symm, ?_⟩
      by_cases q1 : j + 1 = i
      · exact Or.inr fun q2 => h1 ⟨q1, q2⟩
      · exact Or.inl q1
end
section
/-! Own layer, 2: rules, one an instruction (written by wip/gen/rules.py) -/
section ZG
variable {Γ : zg_C} {Ξ : State → Prop} {μ : zg_M} {R : Room} {Ω : List Frame → Array Value → State → State → Prop} {bc bs pc N : Nat} {ls : List (Option Value)} {st : List Value} {K : zg_K} {P : zg_P} {V : zg_V}
theorem zg_iconst {n : Int} (hd : decode μ.2.1 pc = .ok (.iconst n, 1))
    (k : zg_G Γ Ξ μ R Ω bc bs (pc + 1) ls (zg_i n :: st) K N P V) : zg_G Γ Ξ μ R Ω bc bs pc ls st K N P V := by
  intro p e s m args below meth c H locs cells slots lz X Y
  exact lv_iconst X.1 X.2.1 hd rfl (k p e s m args below meth c H locs cells slots lz X Y)
theorem zg_bipush {n : Int} (hd : decode μ.2.1 pc = .ok (.bipush n, 2)) (hv : (Int8.ofInt n).toInt32 = Int32.ofInt n)
    (k : zg_G Γ Ξ μ R Ω bc bs (pc + 2) ls (zg_i n :: st) K N P V) : zg_G Γ Ξ μ R Ω bc bs pc ls st K N P V := by
  intro p e s m args below meth c H locs cells slots lz X Y
  exact lv_bipush X.1 X.2.1 hd hv (k p e s m args below meth c H locs cells slots lz X Y)
theorem zg_sipush {n : Int} (hd : decode μ.2.1 pc = .ok (.sipush n, 3)) (hv : (Int16.ofInt n).toInt32 = Int32.ofInt n)
    (k : zg_G Γ Ξ μ R Ω bc bs (pc + 3) ls (zg_i n :: st) K N P V) : zg_G Γ Ξ μ R Ω bc bs pc ls st K N P V := by
  intro p e s m args below meth c H locs cells slots lz X Y
  exact lv_sipush X.1 X.2.1 hd hv (k p e s m args below meth c H locs cells slots lz X Y)
theorem zg_lconst {n : Fin 2} {z : Int} (hd : decode μ.2.1 pc = .ok (.lconst n, 1)) (hv : Int64.ofNat (n : Nat) = Int64.ofInt z)
    (k : zg_G Γ Ξ μ R Ω bc bs (pc + 1) ls (zg_l z :: st) K N P V) : zg_G Γ Ξ μ R Ω bc bs pc ls st K N P V := by
  intro p e s m args below meth c H locs cells slots lz X Y
  exact lv_lconst X.1 X.2.1 hd hv (k p e s m args below meth c H locs cells slots lz X Y)
theorem zg_ldc {ix : Nat} {v : Int32} (z : Int) (hd : decode μ.2.1 pc = .ok (.ldc ix, 2)) (hw : Cond.constant μ.1.cls ix v ∈ zn_TS) (hv : v = Int32.ofInt z)
    (k : zg_G Γ Ξ μ R Ω bc bs (pc + 2) ls (zg_i z :: st) K N P V) : zg_G Γ Ξ μ R Ω bc bs pc ls st K N P V := by
  intro p e s m args below meth c H locs cells slots lz X Y
  subst hv
  exact lv_ldc X.1 X.2.1 X.2.2.2.2.2.2.1 (X.2.2.2.2.2.1 _ hw) hd (k p e s m args below meth c H locs cells slots lz X Y)
theorem zg_ldc2 {ix : Nat} {v : Int64} (z : Int) (hd : decode μ.2.1 pc = .ok (.ldc2_w ix, 3)) (hw : Cond.constantLong μ.1.cls ix v ∈ zn_TS) (hv : v = Int64.ofInt z)
    (k : zg_G Γ Ξ μ R Ω bc bs (pc + 3) ls (zg_l z :: st) K N P V) : zg_G Γ Ξ μ R Ω bc bs pc ls st K N P V := by
  intro p e s m args below meth c H locs cells slots lz X Y
  subst hv
  exact lv_ldc2 X.1 X.2.1 X.2.2.2.2.2.2.1 (X.2.2.2.2.2.1 _ hw) hd (k p e s m args below meth c H locs cells slots lz X Y)
theorem zg_iadd {a b : Int} (hd : decode μ.2.1 pc = .ok (.iadd, 1))
    (k : zg_G Γ Ξ μ R Ω bc bs (pc + 1) ls (zg_i (a + b) :: st) K N P V) : zg_G Γ Ξ μ R Ω bc bs pc ls (zg_i b :: zg_i a :: st) K N P V := by
  intro p e s m args below meth c H locs cells slots lz X Y
  refine lv_iadd X.1 X.2.1 hd ?_
  have h := k p e s m args below meth c H locs cells slots lz X Y
  rw [zg_i, Int32.ofInt_add] at h
  exact h
theorem zg_isub {a b : Int} (hd : decode μ.2.1 pc = .ok (.isub, 1))
    (k : zg_G Γ Ξ μ R Ω bc bs (pc + 1) ls (zg_i (a - b) :: st) K N P V) : zg_G Γ Ξ μ R Ω bc bs pc ls (zg_i b :: zg_i a :: st) K N P V := by
  intro p e s m args below meth c H locs cells slots lz X Y
  refine lv_isub X.1 X.2.1 hd ?_
  have h := k p e s m args below meth c H locs cells slots lz X Y
  rw [zg_i, Int32.ofInt_sub] at h
  exact h
theorem zg_imul {a b : Int} (hd : decode μ.2.1 pc = .ok (.imul, 1))
    (k : zg_G Γ Ξ μ R Ω bc bs (pc + 1) ls (zg_i (a * b) :: st) K N P V) : zg_G Γ Ξ μ R Ω bc bs pc ls (zg_i b :: zg_i a :: st) K N P V := by
  intro p e s m args below meth c H locs cells slots lz X Y
  refine lv_imul X.1 X.2.1 hd ?_
  have h := k p e s m args below meth c H locs cells slots lz X Y
  rw [zg_i, Int32.ofInt_mul] at h
  exact h
theorem zg_ladd {a b : Int} (hd : decode μ.2.1 pc = .ok (.ladd, 1))
    (k : zg_G Γ Ξ μ R Ω bc bs (pc + 1) ls (zg_l (a + b) :: st) K N P V) : zg_G Γ Ξ μ R Ω bc bs pc ls (zg_l b :: zg_l a :: st) K N P V := by
  intro p e s m args below meth c H locs cells slots lz X Y
  refine lv_ladd X.1 X.2.1 hd ?_
  have h := k p e s m args below meth c H locs cells slots lz X Y
  rw [zg_l, Int64.ofInt_add] at h
  exact h
theorem zg_lsub {a b : Int} (hd : decode μ.2.1 pc = .ok (.lsub, 1))
    (k : zg_G Γ Ξ μ R Ω bc bs (pc + 1) ls (zg_l (a - b) :: st) K N P V) : zg_G Γ Ξ μ R Ω bc bs pc ls (zg_l b :: zg_l a :: st) K N P V := by
  intro p e s m args below meth c H locs cells slots lz X Y
  refine lv_lsub X.1 X.2.1 hd ?_
  have h := k p e s m args below meth c H locs cells slots lz X Y
  rw [zg_l, Int64.ofInt_sub] at h
  exact h
theorem zg_lmul {a b : Int} (hd : decode μ.2.1 pc = .ok (.lmul, 1))
    (k : zg_G Γ Ξ μ R Ω bc bs (pc + 1) ls (zg_l (a * b) :: st) K N P V) : zg_G Γ Ξ μ R Ω bc bs pc ls (zg_l b :: zg_l a :: st) K N P V := by
  intro p e s m args below meth c H locs cells slots lz X Y
  refine lv_lmul X.1 X.2.1 hd ?_
  have h := k p e s m args below meth c H locs cells slots lz X Y
  rw [zg_l, Int64.ofInt_mul] at h
  exact h
theorem zg_ineg {a : Int} (hd : decode μ.2.1 pc = .ok (.ineg, 1))
    (k : zg_G Γ Ξ μ R Ω bc bs (pc + 1) ls (zg_i (-a) :: st) K N P V) : zg_G Γ Ξ μ R Ω bc bs pc ls (zg_i a :: st) K N P V := by
  intro p e s m args below meth c H locs cells slots lz X Y
  refine lv_ineg X.1 X.2.1 hd ?_
  have h := k p e s m args below meth c H locs cells slots lz X Y
  rw [zg_i, Int32.ofInt_neg] at h
  exact h
theorem zg_lneg {a : Int} (hd : decode μ.2.1 pc = .ok (.lneg, 1))
    (k : zg_G Γ Ξ μ R Ω bc bs (pc + 1) ls (zg_l (-a) :: st) K N P V) : zg_G Γ Ξ μ R Ω bc bs pc ls (zg_l a :: st) K N P V := by
  intro p e s m args below meth c H locs cells slots lz X Y
  refine lv_lneg X.1 X.2.1 hd ?_
  have h := k p e s m args below meth c H locs cells slots lz X Y
  rw [zg_l, Int64.ofInt_neg] at h
  exact h
theorem zg_iandR {x y : Int32} (hd : decode μ.2.1 pc = .ok (.iand, 1))
    (k : zg_G Γ Ξ μ R Ω bc bs (pc + 1) ls (.int (x &&& y) :: st) K N P V) : zg_G Γ Ξ μ R Ω bc bs pc ls (.int y :: .int x :: st) K N P V := by
  intro p e s m args below meth c H locs cells slots lz X Y
  exact lv_iand X.1 X.2.1 hd (k p e s m args below meth c H locs cells slots lz X Y)
theorem zg_iorR {x y : Int32} (hd : decode μ.2.1 pc = .ok (.ior, 1))
    (k : zg_G Γ Ξ μ R Ω bc bs (pc + 1) ls (.int (x ||| y) :: st) K N P V) : zg_G Γ Ξ μ R Ω bc bs pc ls (.int y :: .int x :: st) K N P V := by
  intro p e s m args below meth c H locs cells slots lz X Y
  exact lv_ior X.1 X.2.1 hd (k p e s m args below meth c H locs cells slots lz X Y)
theorem zg_ixorR {x y : Int32} (hd : decode μ.2.1 pc = .ok (.ixor, 1))
    (k : zg_G Γ Ξ μ R Ω bc bs (pc + 1) ls (.int (x ^^^ y) :: st) K N P V) : zg_G Γ Ξ μ R Ω bc bs pc ls (.int y :: .int x :: st) K N P V := by
  intro p e s m args below meth c H locs cells slots lz X Y
  exact lv_ixor X.1 X.2.1 hd (k p e s m args below meth c H locs cells slots lz X Y)
theorem zg_ishlR {x y : Int32} (hd : decode μ.2.1 pc = .ok (.ishl, 1))
    (k : zg_G Γ Ξ μ R Ω bc bs (pc + 1) ls (.int (x <<< (y &&& 31)) :: st) K N P V) : zg_G Γ Ξ μ R Ω bc bs pc ls (.int y :: .int x :: st) K N P V := by
  intro p e s m args below meth c H locs cells slots lz X Y
  exact lv_ishl X.1 X.2.1 hd (k p e s m args below meth c H locs cells slots lz X Y)
theorem zg_ishrR {x y : Int32} (hd : decode μ.2.1 pc = .ok (.ishr, 1))
    (k : zg_G Γ Ξ μ R Ω bc bs (pc + 1) ls (.int (x >>> (y &&& 31)) :: st) K N P V) : zg_G Γ Ξ μ R Ω bc bs pc ls (.int y :: .int x :: st) K N P V := by
  intro p e s m args below meth c H locs cells slots lz X Y
  exact lv_ishr X.1 X.2.1 hd (k p e s m args below meth c H locs cells slots lz X Y)
theorem zg_ldc_w {ix : Nat} {v : Int32} (z : Int) (hd : decode μ.2.1 pc = .ok (.ldc_w ix, 3)) (hw : Cond.constant μ.1.cls ix v ∈ zn_TS) (hv : v = Int32.ofInt z)
    (k : zg_G Γ Ξ μ R Ω bc bs (pc + 3) ls (zg_i z :: st) K N P V) : zg_G Γ Ξ μ R Ω bc bs pc ls st K N P V := by
  intro p e s m args below meth c H locs cells slots lz X Y
  subst hv
  exact lv_ldcw X.1 X.2.1 X.2.2.2.2.2.2.1 (X.2.2.2.2.2.1 _ hw) hd (k p e s m args below meth c H locs cells slots lz X Y)
theorem zg_iand {x y : Int32} (z : Int) (hd : decode μ.2.1 pc = .ok (.iand, 1)) (hz : x &&& y = Int32.ofInt z)
    (k : zg_G Γ Ξ μ R Ω bc bs (pc + 1) ls (zg_i z :: st) K N P V) : zg_G Γ Ξ μ R Ω bc bs pc ls (.int y :: .int x :: st) K N P V := by
  intro p e s m args below meth c H locs cells slots lz X Y
  refine lv_iand X.1 X.2.1 hd ?_
  rw [hz]
  exact k p e s m args below meth c H locs cells slots lz X Y
theorem zg_ior {x y : Int32} (z : Int) (hd : decode μ.2.1 pc = .ok (.ior, 1)) (hz : x ||| y = Int32.ofInt z)
    (k : zg_G Γ Ξ μ R Ω bc bs (pc + 1) ls (zg_i z :: st) K N P V) : zg_G Γ Ξ μ R Ω bc bs pc ls (.int y :: .int x :: st) K N P V := by
  intro p e s m args below meth c H locs cells slots lz X Y
  refine lv_ior X.1 X.2.1 hd ?_
  rw [hz]
  exact k p e s m args below meth c H locs cells slots lz X Y
theorem zg_ixor {x y : Int32} (z : Int) (hd : decode μ.2.1 pc = .ok (.ixor, 1)) (hz : x ^^^ y = Int32.ofInt z)
    (k : zg_G Γ Ξ μ R Ω bc bs (pc + 1) ls (zg_i z :: st) K N P V) : zg_G Γ Ξ μ R Ω bc bs pc ls (.int y :: .int x :: st) K N P V := by
  intro p e s m args below meth c H locs cells slots lz X Y
  refine lv_ixor X.1 X.2.1 hd ?_
  rw [hz]
  exact k p e s m args below meth c H locs cells slots lz X Y
theorem zg_ishl {x y : Int32} (z : Int) (hd : decode μ.2.1 pc = .ok (.ishl, 1)) (hz : x <<< (y &&& 31) = Int32.ofInt z)
    (k : zg_G Γ Ξ μ R Ω bc bs (pc + 1) ls (zg_i z :: st) K N P V) : zg_G Γ Ξ μ R Ω bc bs pc ls (.int y :: .int x :: st) K N P V := by
  intro p e s m args below meth c H locs cells slots lz X Y
  refine lv_ishl X.1 X.2.1 hd ?_
  rw [hz]
  exact k p e s m args below meth c H locs cells slots lz X Y
theorem zg_ishr {x y : Int32} (z : Int) (hd : decode μ.2.1 pc = .ok (.ishr, 1)) (hz : x >>> (y &&& 31) = Int32.ofInt z)
    (k : zg_G Γ Ξ μ R Ω bc bs (pc + 1) ls (zg_i z :: st) K N P V) : zg_G Γ Ξ μ R Ω bc bs pc ls (.int y :: .int x :: st) K N P V := by
  intro p e s m args below meth c H locs cells slots lz X Y
  refine lv_ishr X.1 X.2.1 hd ?_
  rw [hz]
  exact k p e s m args below meth c H locs cells slots lz X Y
theorem zg_iushr {x y : Int32} (z : Int) (hd : decode μ.2.1 pc = .ok (.iushr, 1)) (hz : (x.toUInt32 >>> (y.toUInt32 &&& Int32.toUInt32 31)).toInt32 = Int32.ofInt z)
    (k : zg_G Γ Ξ μ R Ω bc bs (pc + 1) ls (zg_i z :: st) K N P V) : zg_G Γ Ξ μ R Ω bc bs pc ls (.int y :: .int x :: st) K N P V := by
  intro p e s m args below meth c H locs cells slots lz X Y
  exact lv_iushr X.1 X.2.1 hd hz (k p e s m args below meth c H locs cells slots lz X Y)
theorem zg_idiv {x y : Int32} (z : Int) (hd : decode μ.2.1 pc = .ok (.idiv, 1)) (hne : ¬ y = 0) (hz : x / y = Int32.ofInt z)
    (k : zg_G Γ Ξ μ R Ω bc bs (pc + 1) ls (zg_i z :: st) K N P V) : zg_G Γ Ξ μ R Ω bc bs pc ls (.int y :: .int x :: st) K N P V := by
  intro p e s m args below meth c H locs cells slots lz X Y
  refine lv_idiv X.1 X.2.1 hd hne ?_
  rw [hz]
  exact k p e s m args below meth c H locs cells slots lz X Y
theorem zg_irem {x y : Int32} (z : Int) (hd : decode μ.2.1 pc = .ok (.irem, 1)) (hne : ¬ y = 0) (hz : x - x / y * y = Int32.ofInt z)
    (k : zg_G Γ Ξ μ R Ω bc bs (pc + 1) ls (zg_i z :: st) K N P V) : zg_G Γ Ξ μ R Ω bc bs pc ls (.int y :: .int x :: st) K N P V := by
  intro p e s m args below meth c H locs cells slots lz X Y
  refine lv_irem X.1 X.2.1 hd hne ?_
  rw [hz]
  exact k p e s m args below meth c H locs cells slots lz X Y
theorem zg_ldiv {x y : Int64} (z : Int) (hd : decode μ.2.1 pc = .ok (.ldiv, 1)) (hne : ¬ y = 0) (hz : x / y = Int64.ofInt z)
    (k : zg_G Γ Ξ μ R Ω bc bs (pc + 1) ls (zg_l z :: st) K N P V) : zg_G Γ Ξ μ R Ω bc bs pc ls (.long y :: .long x :: st) K N P V := by
  intro p e s m args below meth c H locs cells slots lz X Y
  refine lv_ldiv X.1 X.2.1 hd hne ?_
  rw [hz]
  exact k p e s m args below meth c H locs cells slots lz X Y
theorem zg_lrem {x y : Int64} (z : Int) (hd : decode μ.2.1 pc = .ok (.lrem, 1)) (hne : ¬ y = 0) (hz : x - x / y * y = Int64.ofInt z)
    (k : zg_G Γ Ξ μ R Ω bc bs (pc + 1) ls (zg_l z :: st) K N P V) : zg_G Γ Ξ μ R Ω bc bs pc ls (.long y :: .long x :: st) K N P V := by
  intro p e s m args below meth c H locs cells slots lz X Y
  refine lv_lrem X.1 X.2.1 hd hne ?_
  rw [hz]
  exact k p e s m args below meth c H locs cells slots lz X Y
theorem zg_land {x y : Int64} (z : Int) (hd : decode μ.2.1 pc = .ok (.land, 1)) (hz : x &&& y = Int64.ofInt z)
    (k : zg_G Γ Ξ μ R Ω bc bs (pc + 1) ls (zg_l z :: st) K N P V) : zg_G Γ Ξ μ R Ω bc bs pc ls (.long y :: .long x :: st) K N P V := by
  intro p e s m args below meth c H locs cells slots lz X Y
  refine lv_land X.1 X.2.1 hd ?_
  rw [hz]
  exact k p e s m args below meth c H locs cells slots lz X Y
theorem zg_lor {x y : Int64} (z : Int) (hd : decode μ.2.1 pc = .ok (.lor, 1)) (hz : x ||| y = Int64.ofInt z)
    (k : zg_G Γ Ξ μ R Ω bc bs (pc + 1) ls (zg_l z :: st) K N P V) : zg_G Γ Ξ μ R Ω bc bs pc ls (.long y :: .long x :: st) K N P V := by
  intro p e s m args below meth c H locs cells slots lz X Y
  refine lv_lor X.1 X.2.1 hd ?_
  rw [hz]
  exact k p e s m args below meth c H locs cells slots lz X Y
theorem zg_lxor {x y : Int64} (z : Int) (hd : decode μ.2.1 pc = .ok (.lxor, 1)) (hz : x ^^^ y = Int64.ofInt z)
    (k : zg_G Γ Ξ μ R Ω bc bs (pc + 1) ls (zg_l z :: st) K N P V) : zg_G Γ Ξ μ R Ω bc bs pc ls (.long y :: .long x :: st) K N P V := by
  intro p e s m args below meth c H locs cells slots lz X Y
  refine lv_lxor X.1 X.2.1 hd ?_
  rw [hz]
  exact k p e s m args below meth c H locs cells slots lz X Y
theorem zg_lushr {x : Int64} {y : Int32} (z : Int) (hd : decode μ.2.1 pc = .ok (.lushr, 1)) (hz : (x.toUInt64 >>> (y.toInt64.toUInt64 &&& Int64.toUInt64 63)).toInt64 = Int64.ofInt z)
    (k : zg_G Γ Ξ μ R Ω bc bs (pc + 1) ls (zg_l z :: st) K N P V) : zg_G Γ Ξ μ R Ω bc bs pc ls (.int y :: .long x :: st) K N P V := by
  intro p e s m args below meth c H locs cells slots lz X Y
  exact lv_lushr X.1 X.2.1 hd hz (k p e s m args below meth c H locs cells slots lz X Y)
theorem zg_lshl {x : Int64} {y : Int32} (z : Int) (hd : decode μ.2.1 pc = .ok (.lshl, 1)) (hz : x <<< (y.toInt64 &&& 63) = Int64.ofInt z)
    (k : zg_G Γ Ξ μ R Ω bc bs (pc + 1) ls (zg_l z :: st) K N P V) : zg_G Γ Ξ μ R Ω bc bs pc ls (.int y :: .long x :: st) K N P V := by
  intro p e s m args below meth c H locs cells slots lz X Y
  exact lv_lshl X.1 X.2.1 hd hz (k p e s m args below meth c H locs cells slots lz X Y)
theorem zg_lshr {x : Int64} {y : Int32} (z : Int) (hd : decode μ.2.1 pc = .ok (.lshr, 1)) (hz : x >>> (y.toInt64 &&& 63) = Int64.ofInt z)
    (k : zg_G Γ Ξ μ R Ω bc bs (pc + 1) ls (zg_l z :: st) K N P V) : zg_G Γ Ξ μ R Ω bc bs pc ls (.int y :: .long x :: st) K N P V := by
  intro p e s m args below meth c H locs cells slots lz X Y
  exact lv_lshr X.1 X.2.1 hd hz (k p e s m args below meth c H locs cells slots lz X Y)
theorem zg_i2l {a : Int} (hd : decode μ.2.1 pc = .ok (.i2l, 1)) (ha : -2147483648 ≤ a ∧ a < 2147483648)
    (k : zg_G Γ Ξ μ R Ω bc bs (pc + 1) ls (zg_l a :: st) K N P V) : zg_G Γ Ξ μ R Ω bc bs pc ls (zg_i a :: st) K N P V := by
  intro p e s m args below meth c H locs cells slots lz X Y
  exact lv_i2l X.1 X.2.1 hd (Int64.toInt_inj.mp (by rw [Int32.toInt_toInt64, Int32.toInt_ofInt_of_le (by omega) (by omega), Int64.toInt_ofInt_of_le (by omega) (by omega)])) (k p e s m args below meth c H locs cells slots lz X Y)
theorem zg_l2i {a : Int} (hd : decode μ.2.1 pc = .ok (.l2i, 1))
    (k : zg_G Γ Ξ μ R Ω bc bs (pc + 1) ls (zg_i a :: st) K N P V) : zg_G Γ Ξ μ R Ω bc bs pc ls (zg_l a :: st) K N P V := by
  intro p e s m args below meth c H locs cells slots lz X Y
  exact lv_l2i X.1 X.2.1 hd Int64.toInt32_ofInt (k p e s m args below meth c H locs cells slots lz X Y)
def zg_cmp (a b : Int) : Int := if b < a then 1 else if a = b then 0 else -1
theorem zg_cmp_eq {a b : Int} (ha : -9223372036854775808 ≤ a ∧ a < 9223372036854775808) (hb : -9223372036854775808 ≤ b ∧ b < 9223372036854775808) : lg_cmp (Int64.ofInt a) (Int64.ofInt b) = Int32.ofInt (zg_cmp a b) := by
  have h1 : (Int64.ofInt a).toInt = a := Int64.toInt_ofInt_of_le (by omega) (by omega)
  have h2 : (Int64.ofInt b).toInt = b := Int64.toInt_ofInt_of_le (by omega) (by omega)
  unfold lg_cmp zg_cmp
  by_cases q : b < a
  · rw [if_pos q, if_pos (by show Int64.ofInt b < Int64.ofInt a; rw [Int64.lt_iff_toInt_lt, h1, h2]; exact q)]
    rfl
  · rw [if_neg q, if_neg (by show ¬ Int64.ofInt b < Int64.ofInt a; rw [Int64.lt_iff_toInt_lt, h1, h2]; exact q)]
    by_cases r : a = b
    · rw [if_pos r, if_pos (by rw [r])]
      rfl
    · rw [if_neg r, if_neg (by rw [← Int64.toInt_inj, h1, h2]; exact r)]
      rfl
theorem zg_lcmp {a b : Int} (hd : decode μ.2.1 pc = .ok (.lcmp, 1)) (ha : -9223372036854775808 ≤ a ∧ a < 9223372036854775808) (hb : -9223372036854775808 ≤ b ∧ b < 9223372036854775808)
    (k : zg_G Γ Ξ μ R Ω bc bs (pc + 1) ls (zg_i (zg_cmp a b) :: st) K N P V) : zg_G Γ Ξ μ R Ω bc bs pc ls (zg_l b :: zg_l a :: st) K N P V := by
  intro p e s m args below meth c H locs cells slots lz X Y
  refine W.lcmp X.1 X.2.1 hd ?_
  rw [zg_cmp_eq ha hb]
  exact k p e s m args below meth c H locs cells slots lz X Y
theorem zg_dup {va : Value} (hd : decode μ.2.1 pc = .ok (.dup, 1)) (hva : va.category = 1)
    (k : zg_G Γ Ξ μ R Ω bc bs (pc + 1) ls (va :: va :: st) K N P V) : zg_G Γ Ξ μ R Ω bc bs pc ls (va :: st) K N P V := by
  intro p e s m args below meth c H locs cells slots lz X Y
  exact lv_dup X.1 X.2.1 hd hva (k p e s m args below meth c H locs cells slots lz X Y)
theorem zg_pop {va : Value} (hd : decode μ.2.1 pc = .ok (.pop, 1)) (hva : va.category = 1)
    (k : zg_G Γ Ξ μ R Ω bc bs (pc + 1) ls st K N P V) : zg_G Γ Ξ μ R Ω bc bs pc ls (va :: st) K N P V := by
  intro p e s m args below meth c H locs cells slots lz X Y
  exact lv_pop X.1 X.2.1 hd hva (k p e s m args below meth c H locs cells slots lz X Y)
theorem zg_dup_x1 {va vb : Value} (hd : decode μ.2.1 pc = .ok (.dup_x1, 1)) (hva : va.category = 1) (hvb : vb.category = 1)
    (k : zg_G Γ Ξ μ R Ω bc bs (pc + 1) ls (va :: vb :: va :: st) K N P V) : zg_G Γ Ξ μ R Ω bc bs pc ls (va :: vb :: st) K N P V := by
  intro p e s m args below meth c H locs cells slots lz X Y
  exact lv_dup_x1 X.1 X.2.1 hd hva hvb (k p e s m args below meth c H locs cells slots lz X Y)
theorem zg_dup_x2 {va vb vd : Value} (hd : decode μ.2.1 pc = .ok (.dup_x2, 1)) (hva : va.category = 1) (hvb : vb.category = 1) (hvd : vd.category = 1)
    (k : zg_G Γ Ξ μ R Ω bc bs (pc + 1) ls (va :: vb :: vd :: va :: st) K N P V) : zg_G Γ Ξ μ R Ω bc bs pc ls (va :: vb :: vd :: st) K N P V := by
  intro p e s m args below meth c H locs cells slots lz X Y
  exact lv_dup_x2 X.1 X.2.1 hd hva hvb hvd (k p e s m args below meth c H locs cells slots lz X Y)
theorem zg_dup2 {va vb : Value} (hd : decode μ.2.1 pc = .ok (.dup2, 1)) (hva : va.category = 1) (hvb : vb.category = 1)
    (k : zg_G Γ Ξ μ R Ω bc bs (pc + 1) ls (va :: vb :: va :: vb :: st) K N P V) : zg_G Γ Ξ μ R Ω bc bs pc ls (va :: vb :: st) K N P V := by
  intro p e s m args below meth c H locs cells slots lz X Y
  exact lv_dup2_11 X.1 X.2.1 hd hva hvb (k p e s m args below meth c H locs cells slots lz X Y)
theorem zg_dup2L {va : Value} (hd : decode μ.2.1 pc = .ok (.dup2, 1)) (hva : va.category = 2)
    (k : zg_G Γ Ξ μ R Ω bc bs (pc + 1) ls (va :: va :: st) K N P V) : zg_G Γ Ξ μ R Ω bc bs pc ls (va :: st) K N P V := by
  intro p e s m args below meth c H locs cells slots lz X Y
  exact lv_dup2_2 X.1 X.2.1 hd hva (k p e s m args below meth c H locs cells slots lz X Y)
theorem zg_pop2L {va : Value} (hd : decode μ.2.1 pc = .ok (.pop2, 1)) (hva : va.category = 2)
    (k : zg_G Γ Ξ μ R Ω bc bs (pc + 1) ls st K N P V) : zg_G Γ Ξ μ R Ω bc bs pc ls (va :: st) K N P V := by
  intro p e s m args below meth c H locs cells slots lz X Y
  exact lv_pop2_2 X.1 X.2.1 hd hva (k p e s m args below meth c H locs cells slots lz X Y)
theorem zg_icmp_eq {a b off : Int} {tgt : Nat} (hd : decode μ.2.1 pc = .ok (.if_icmp .eq off, 3)) (ht : (pc : Int) + off = (tgt : Int)) (ha : -2147483648 ≤ a ∧ a < 2147483648) (hb : -2147483648 ≤ b ∧ b < 2147483648)
    (kt : a = b → zg_G Γ Ξ μ R Ω bc bs tgt ls st K N P V) (kf : ¬ (a = b) → zg_G Γ Ξ μ R Ω bc bs (pc + 3) ls st K N P V) : zg_G Γ Ξ μ R Ω bc bs pc ls (zg_i b :: zg_i a :: st) K N P V := by
  intro p e s m args below meth c H locs cells slots lz X Y
  exact lv_icmp_eq X.1 X.2.1 hd ht (fun h => kt ((zg_eq ha hb).mp h) p e s m args below meth c H locs cells slots lz X Y) (fun h => kf (fun q => h ((zg_eq ha hb).mpr q)) p e s m args below meth c H locs cells slots lz X Y)
theorem zg_if_eq {a off : Int} {tgt : Nat} (hd : decode μ.2.1 pc = .ok (.ifCond .eq off, 3)) (ht : (pc : Int) + off = (tgt : Int)) (ha : -2147483648 ≤ a ∧ a < 2147483648)
    (kt : a = 0 → zg_G Γ Ξ μ R Ω bc bs tgt ls st K N P V) (kf : ¬ (a = 0) → zg_G Γ Ξ μ R Ω bc bs (pc + 3) ls st K N P V) : zg_G Γ Ξ μ R Ω bc bs pc ls (zg_i a :: st) K N P V := by
  intro p e s m args below meth c H locs cells slots lz X Y
  exact lv_if_eq X.1 X.2.1 hd ht (fun h => kt ((zg_eq0 ha).mp h) p e s m args below meth c H locs cells slots lz X Y) (fun h => kf (fun q => h ((zg_eq0 ha).mpr q)) p e s m args below meth c H locs cells slots lz X Y)
theorem zg_icmp_ne {a b off : Int} {tgt : Nat} (hd : decode μ.2.1 pc = .ok (.if_icmp .ne off, 3)) (ht : (pc : Int) + off = (tgt : Int)) (ha : -2147483648 ≤ a ∧ a < 2147483648) (hb : -2147483648 ≤ b ∧ b < 2147483648)
    (kt : ¬ a = b → zg_G Γ Ξ μ R Ω bc bs tgt ls st K N P V) (kf : a = b → zg_G Γ Ξ μ R Ω bc bs (pc + 3) ls st K N P V) : zg_G Γ Ξ μ R Ω bc bs pc ls (zg_i b :: zg_i a :: st) K N P V := by
  intro p e s m args below meth c H locs cells slots lz X Y
  exact lv_icmp_ne X.1 X.2.1 hd ht (fun h => kt (fun q => h ((zg_eq ha hb).mpr q)) p e s m args below meth c H locs cells slots lz X Y) (fun h => kf ((zg_eq ha hb).mp h) p e s m args below meth c H locs cells slots lz X Y)
theorem zg_if_ne {a off : Int} {tgt : Nat} (hd : decode μ.2.1 pc = .ok (.ifCond .ne off, 3)) (ht : (pc : Int) + off = (tgt : Int)) (ha : -2147483648 ≤ a ∧ a < 2147483648)
    (kt : ¬ a = 0 → zg_G Γ Ξ μ R Ω bc bs tgt ls st K N P V) (kf : a = 0 → zg_G Γ Ξ μ R Ω bc bs (pc + 3) ls st K N P V) : zg_G Γ Ξ μ R Ω bc bs pc ls (zg_i a :: st) K N P V := by
  intro p e s m args below meth c H locs cells slots lz X Y
  exact lv_if_ne X.1 X.2.1 hd ht (fun h => kt (fun q => h ((zg_eq0 ha).mpr q)) p e s m args below meth c H locs cells slots lz X Y) (fun h => kf ((zg_eq0 ha).mp h) p e s m args below meth c H locs cells slots lz X Y)
theorem zg_icmp_lt {a b off : Int} {tgt : Nat} (hd : decode μ.2.1 pc = .ok (.if_icmp .lt off, 3)) (ht : (pc : Int) + off = (tgt : Int)) (ha : -2147483648 ≤ a ∧ a < 2147483648) (hb : -2147483648 ≤ b ∧ b < 2147483648)
    (kt : a < b → zg_G Γ Ξ μ R Ω bc bs tgt ls st K N P V) (kf : ¬ (a < b) → zg_G Γ Ξ μ R Ω bc bs (pc + 3) ls st K N P V) : zg_G Γ Ξ μ R Ω bc bs pc ls (zg_i b :: zg_i a :: st) K N P V := by
  intro p e s m args below meth c H locs cells slots lz X Y
  exact lv_icmp_lt X.1 X.2.1 hd ht (fun h => kt ((zg_lt ha hb).mp h) p e s m args below meth c H locs cells slots lz X Y) (fun h => kf (fun q => h ((zg_lt ha hb).mpr q)) p e s m args below meth c H locs cells slots lz X Y)
theorem zg_if_lt {a off : Int} {tgt : Nat} (hd : decode μ.2.1 pc = .ok (.ifCond .lt off, 3)) (ht : (pc : Int) + off = (tgt : Int)) (ha : -2147483648 ≤ a ∧ a < 2147483648)
    (kt : a < 0 → zg_G Γ Ξ μ R Ω bc bs tgt ls st K N P V) (kf : ¬ (a < 0) → zg_G Γ Ξ μ R Ω bc bs (pc + 3) ls st K N P V) : zg_G Γ Ξ μ R Ω bc bs pc ls (zg_i a :: st) K N P V := by
  intro p e s m args below meth c H locs cells slots lz X Y
  exact lv_if_lt X.1 X.2.1 hd ht (fun h => kt ((zg_lt0 ha).mp h) p e s m args below meth c H locs cells slots lz X Y) (fun h => kf (fun q => h ((zg_lt0 ha).mpr q)) p e s m args below meth c H locs cells slots lz X Y)
theorem zg_icmp_ge {a b off : Int} {tgt : Nat} (hd : decode μ.2.1 pc = .ok (.if_icmp .ge off, 3)) (ht : (pc : Int) + off = (tgt : Int)) (ha : -2147483648 ≤ a ∧ a < 2147483648) (hb : -2147483648 ≤ b ∧ b < 2147483648)
    (kt : b ≤ a → zg_G Γ Ξ μ R Ω bc bs tgt ls st K N P V) (kf : ¬ (b ≤ a) → zg_G Γ Ξ μ R Ω bc bs (pc + 3) ls st K N P V) : zg_G Γ Ξ μ R Ω bc bs pc ls (zg_i b :: zg_i a :: st) K N P V := by
  intro p e s m args below meth c H locs cells slots lz X Y
  exact lv_icmp_ge X.1 X.2.1 hd ht (fun h => kt ((zg_le hb ha).mp h) p e s m args below meth c H locs cells slots lz X Y) (fun h => kf (fun q => h ((zg_le hb ha).mpr q)) p e s m args below meth c H locs cells slots lz X Y)
theorem zg_if_ge {a off : Int} {tgt : Nat} (hd : decode μ.2.1 pc = .ok (.ifCond .ge off, 3)) (ht : (pc : Int) + off = (tgt : Int)) (ha : -2147483648 ≤ a ∧ a < 2147483648)
    (kt : 0 ≤ a → zg_G Γ Ξ μ R Ω bc bs tgt ls st K N P V) (kf : ¬ (0 ≤ a) → zg_G Γ Ξ μ R Ω bc bs (pc + 3) ls st K N P V) : zg_G Γ Ξ μ R Ω bc bs pc ls (zg_i a :: st) K N P V := by
  intro p e s m args below meth c H locs cells slots lz X Y
  exact lv_if_ge X.1 X.2.1 hd ht (fun h => kt ((zg_0le ha).mp h) p e s m args below meth c H locs cells slots lz X Y) (fun h => kf (fun q => h ((zg_0le ha).mpr q)) p e s m args below meth c H locs cells slots lz X Y)
theorem zg_icmp_gt {a b off : Int} {tgt : Nat} (hd : decode μ.2.1 pc = .ok (.if_icmp .gt off, 3)) (ht : (pc : Int) + off = (tgt : Int)) (ha : -2147483648 ≤ a ∧ a < 2147483648) (hb : -2147483648 ≤ b ∧ b < 2147483648)
    (kt : b < a → zg_G Γ Ξ μ R Ω bc bs tgt ls st K N P V) (kf : ¬ (b < a) → zg_G Γ Ξ μ R Ω bc bs (pc + 3) ls st K N P V) : zg_G Γ Ξ μ R Ω bc bs pc ls (zg_i b :: zg_i a :: st) K N P V := by
  intro p e s m args below meth c H locs cells slots lz X Y
  exact lv_icmp_gt X.1 X.2.1 hd ht (fun h => kt ((zg_lt hb ha).mp h) p e s m args below meth c H locs cells slots lz X Y) (fun h => kf (fun q => h ((zg_lt hb ha).mpr q)) p e s m args below meth c H locs cells slots lz X Y)
theorem zg_if_gt {a off : Int} {tgt : Nat} (hd : decode μ.2.1 pc = .ok (.ifCond .gt off, 3)) (ht : (pc : Int) + off = (tgt : Int)) (ha : -2147483648 ≤ a ∧ a < 2147483648)
    (kt : 0 < a → zg_G Γ Ξ μ R Ω bc bs tgt ls st K N P V) (kf : ¬ (0 < a) → zg_G Γ Ξ μ R Ω bc bs (pc + 3) ls st K N P V) : zg_G Γ Ξ μ R Ω bc bs pc ls (zg_i a :: st) K N P V := by
  intro p e s m args below meth c H locs cells slots lz X Y
  exact lv_if_gt X.1 X.2.1 hd ht (fun h => kt ((zg_0lt ha).mp h) p e s m args below meth c H locs cells slots lz X Y) (fun h => kf (fun q => h ((zg_0lt ha).mpr q)) p e s m args below meth c H locs cells slots lz X Y)
theorem zg_icmp_le {a b off : Int} {tgt : Nat} (hd : decode μ.2.1 pc = .ok (.if_icmp .le off, 3)) (ht : (pc : Int) + off = (tgt : Int)) (ha : -2147483648 ≤ a ∧ a < 2147483648) (hb : -2147483648 ≤ b ∧ b < 2147483648)
    (kt : a ≤ b → zg_G Γ Ξ μ R Ω bc bs tgt ls st K N P V) (kf : ¬ (a ≤ b) → zg_G Γ Ξ μ R Ω bc bs (pc + 3) ls st K N P V) : zg_G Γ Ξ μ R Ω bc bs pc ls (zg_i b :: zg_i a :: st) K N P V := by
  intro p e s m args below meth c H locs cells slots lz X Y
  exact lv_icmp_le X.1 X.2.1 hd ht (fun h => kt ((zg_le ha hb).mp h) p e s m args below meth c H locs cells slots lz X Y) (fun h => kf (fun q => h ((zg_le ha hb).mpr q)) p e s m args below meth c H locs cells slots lz X Y)
theorem zg_if_le {a off : Int} {tgt : Nat} (hd : decode μ.2.1 pc = .ok (.ifCond .le off, 3)) (ht : (pc : Int) + off = (tgt : Int)) (ha : -2147483648 ≤ a ∧ a < 2147483648)
    (kt : a ≤ 0 → zg_G Γ Ξ μ R Ω bc bs tgt ls st K N P V) (kf : ¬ (a ≤ 0) → zg_G Γ Ξ μ R Ω bc bs (pc + 3) ls st K N P V) : zg_G Γ Ξ μ R Ω bc bs pc ls (zg_i a :: st) K N P V := by
  intro p e s m args below meth c H locs cells slots lz X Y
  exact lv_if_le X.1 X.2.1 hd ht (fun h => kt ((zg_le0 ha).mp h) p e s m args below meth c H locs cells slots lz X Y) (fun h => kf (fun q => h ((zg_le0 ha).mpr q)) p e s m args below meth c H locs cells slots lz X Y)
theorem zg_goto {off : Int} {tgt : Nat} (hd : decode μ.2.1 pc = .ok (.goto off, 3)) (ht : (pc : Int) + off = (tgt : Int))
    (k : zg_G Γ Ξ μ R Ω bc bs tgt ls st K N P V) : zg_G Γ Ξ μ R Ω bc bs pc ls st K N P V := by
  intro p e s m args below meth c H locs cells slots lz X Y
  exact lv_goto X.1 X.2.1 hd ht (k p e s m args below meth c H locs cells slots lz X Y)
theorem zg_icmp_ne_rf {x : Int32} {off : Int} {tgt : Nat} (hd : decode μ.2.1 pc = .ok (.if_icmp .ne off, 3)) (ht : (pc : Int) + off = (tgt : Int))
    (k : zg_G Γ Ξ μ R Ω bc bs (pc + 3) ls st K N P V) : zg_G Γ Ξ μ R Ω bc bs pc ls (.int x :: .int x :: st) K N P V := by
  intro p e s m args below meth c H locs cells slots lz X Y
  exact lv_icmp_ne X.1 X.2.1 hd ht (fun h => absurd rfl h) (fun _ => k p e s m args below meth c H locs cells slots lz X Y)
theorem zg_icmp_eq_rf {x : Int32} {off : Int} {tgt : Nat} (hd : decode μ.2.1 pc = .ok (.if_icmp .eq off, 3)) (ht : (pc : Int) + off = (tgt : Int))
    (k : zg_G Γ Ξ μ R Ω bc bs tgt ls st K N P V) : zg_G Γ Ξ μ R Ω bc bs pc ls (.int x :: .int x :: st) K N P V := by
  intro p e s m args below meth c H locs cells slots lz X Y
  exact lv_icmp_eq X.1 X.2.1 hd ht (fun _ => k p e s m args below meth c H locs cells slots lz X Y) (fun h => absurd rfl h)
theorem zg_lcmp_rf {x : Int64} (hd : decode μ.2.1 pc = .ok (.lcmp, 1))
    (k : zg_G Γ Ξ μ R Ω bc bs (pc + 1) ls (zg_i 0 :: st) K N P V) : zg_G Γ Ξ μ R Ω bc bs pc ls (.long x :: .long x :: st) K N P V := by
  intro p e s m args below meth c H locs cells slots lz X Y
  refine W.lcmp X.1 X.2.1 hd ?_
  have h : lg_cmp x x = Int32.ofInt 0 := by simp [lg_cmp]
  rw [h]
  exact k p e s m args below meth c H locs cells slots lz X Y
section ZL
variable {o0 o1 o2 o3 o4 o5 o6 o7 o8 o9 o10 o11 o12 o13 o14 o15 o16 : Option Value} {rs : List (Option Value)}
theorem zg_il0 {z : Int} (hd : decode μ.2.1 pc = .ok (.iload_n 0, 1))
    (k : zg_G Γ Ξ μ R Ω bc bs (pc + 1) (some (zg_i z) :: rs) (zg_i z :: st) K N P V) : zg_G Γ Ξ μ R Ω bc bs pc (some (zg_i z) :: rs) st K N P V := by
  intro p e s m args below meth c H locs cells slots lz X Y
  exact lv_iload_n X.1 X.2.1 hd rfl (Y.1.2.2 0 _ rfl) (k p e s m args below meth c H locs cells slots lz X Y)
theorem zg_ll0 {z : Int} (hd : decode μ.2.1 pc = .ok (.lload_n 0, 1))
    (k : zg_G Γ Ξ μ R Ω bc bs (pc + 1) (some (zg_l z) :: rs) (zg_l z :: st) K N P V) : zg_G Γ Ξ μ R Ω bc bs pc (some (zg_l z) :: rs) st K N P V := by
  intro p e s m args below meth c H locs cells slots lz X Y
  exact lv_lload_n X.1 X.2.1 hd rfl (Y.1.2.2 0 _ rfl) (k p e s m args below meth c H locs cells slots lz X Y)
theorem zg_al0 {a : Nat} (hd : decode μ.2.1 pc = .ok (.aload_n 0, 1))
    (k : zg_G Γ Ξ μ R Ω bc bs (pc + 1) (some (zg_r Γ a) :: rs) (zg_r Γ a :: st) K N P V) : zg_G Γ Ξ μ R Ω bc bs pc (some (zg_r Γ a) :: rs) st K N P V := by
  intro p e s m args below meth c H locs cells slots lz X Y
  exact lv_aload_n X.1 X.2.1 hd rfl (Y.1.2.2 0 _ rfl) (k p e s m args below meth c H locs cells slots lz X Y)
theorem zg_is0 {z : Int} (hd : decode μ.2.1 pc = .ok (.istore_n 0, 1)) (hn : 0 < μ.2.2.1)
    (k : zg_G Γ Ξ μ R Ω bc bs (pc + 1) (some (zg_i z) :: rs) st K N P V) : zg_G Γ Ξ μ R Ω bc bs pc (o0 :: rs) (zg_i z :: st) K N P V := by
  intro p e s m args below meth c H locs cells slots lz X Y
  exact lv_istore_n X.1 X.2.1 hd rfl (zg_lh_has Y.1) hn rfl (fun lz' h => k p e s m args below meth c H locs cells slots lz' X ⟨zg_lh_store (fun w h _ => absurd h (Nat.lt_irrefl 0)) h, Y.2⟩)
theorem zg_as0 {a : Nat} (hd : decode μ.2.1 pc = .ok (.astore_n 0, 1)) (hn : 0 < μ.2.2.1)
    (k : zg_G Γ Ξ μ R Ω bc bs (pc + 1) (some (zg_r Γ a) :: rs) st K N P V) : zg_G Γ Ξ μ R Ω bc bs pc (o0 :: rs) (zg_r Γ a :: st) K N P V := by
  intro p e s m args below meth c H locs cells slots lz X Y
  exact lv_astore_n X.1 X.2.1 hd rfl (zg_lh_has Y.1) hn rfl (fun lz' h => k p e s m args below meth c H locs cells slots lz' X ⟨zg_lh_store (fun w h _ => absurd h (Nat.lt_irrefl 0)) h, Y.2⟩)
theorem zg_ls0 {z : Int} (hd : decode μ.2.1 pc = .ok (.lstore_n 0, 1)) (hn : 0 + 1 < μ.2.2.1)
    (k : zg_G Γ Ξ μ R Ω bc bs (pc + 1) (some (zg_l z) :: none :: rs) st K N P V) : zg_G Γ Ξ μ R Ω bc bs pc (o0 :: o1 :: rs) (zg_l z :: st) K N P V := by
  intro p e s m args below meth c H locs cells slots lz X Y
  exact lv_lstore_n X.1 X.2.1 hd rfl (zg_lh_has Y.1) hn rfl (fun lz' h => k p e s m args below meth c H locs cells slots lz' X ⟨zg_lh_store2 (fun w h _ => absurd h (Nat.lt_irrefl 0)) h, Y.2⟩)
theorem zg_inc0 {z n : Int} (hd : decode μ.2.1 pc = .ok (.iinc 0 n, 3)) (hn : 0 < μ.2.2.1)
    (k : zg_G Γ Ξ μ R Ω bc bs (pc + 3) (some (zg_i (z + n)) :: rs) st K N P V) : zg_G Γ Ξ μ R Ω bc bs pc (some (zg_i z) :: rs) st K N P V := by
  intro p e s m args below meth c H locs cells slots lz X Y
  obtain ⟨kx, hkx⟩ := List.getElem?_of_mem (zg_pr_mem.mpr (show (some (zg_i z) :: rs)[0]? = some (some (zg_i z)) from rfl))
  exact lv_iinc (v := Int32.ofInt (z + n)) X.1 X.2.1 hd (zg_lh_has Y.1) hkx (Int32.ofInt_add z n).symm hn rfl (fun lz' h => k p e s m args below meth c H locs cells slots lz' X ⟨zg_lh_store (fun w h _ => absurd h (Nat.lt_irrefl 0)) h, Y.2⟩)
theorem zg_il1 {z : Int} (hd : decode μ.2.1 pc = .ok (.iload_n 1, 1))
    (k : zg_G Γ Ξ μ R Ω bc bs (pc + 1) (o0 :: some (zg_i z) :: rs) (zg_i z :: st) K N P V) : zg_G Γ Ξ μ R Ω bc bs pc (o0 :: some (zg_i z) :: rs) st K N P V := by
  intro p e s m args below meth c H locs cells slots lz X Y
  exact lv_iload_n X.1 X.2.1 hd rfl (Y.1.2.2 1 _ rfl) (k p e s m args below meth c H locs cells slots lz X Y)
theorem zg_ll1 {z : Int} (hd : decode μ.2.1 pc = .ok (.lload_n 1, 1))
    (k : zg_G Γ Ξ μ R Ω bc bs (pc + 1) (o0 :: some (zg_l z) :: rs) (zg_l z :: st) K N P V) : zg_G Γ Ξ μ R Ω bc bs pc (o0 :: some (zg_l z) :: rs) st K N P V := by
  intro p e s m args below meth c H locs cells slots lz X Y
  exact lv_lload_n X.1 X.2.1 hd rfl (Y.1.2.2 1 _ rfl) (k p e s m args below meth c H locs cells slots lz X Y)
theorem zg_al1 {a : Nat} (hd : decode μ.2.1 pc = .ok (.aload_n 1, 1))
    (k : zg_G Γ Ξ μ R Ω bc bs (pc + 1) (o0 :: some (zg_r Γ a) :: rs) (zg_r Γ a :: st) K N P V) : zg_G Γ Ξ μ R Ω bc bs pc (o0 :: some (zg_r Γ a) :: rs) st K N P V := by
  intro p e s m args below meth c H locs cells slots lz X Y
  exact lv_aload_n X.1 X.2.1 hd rfl (Y.1.2.2 1 _ rfl) (k p e s m args below meth c H locs cells slots lz X Y)
theorem zg_is1 {z : Int} (hd : decode μ.2.1 pc = .ok (.istore_n 1, 1)) (hc : ∀ w, o0 = some w → w.category = 1) (hn : 1 < μ.2.2.1)
    (k : zg_G Γ Ξ μ R Ω bc bs (pc + 1) (o0 :: some (zg_i z) :: rs) st K N P V) : zg_G Γ Ξ μ R Ω bc bs pc (o0 :: o1 :: rs) (zg_i z :: st) K N P V := by
  intro p e s m args below meth c H locs cells slots lz X Y
  exact lv_istore_n X.1 X.2.1 hd rfl (zg_lh_has Y.1) hn rfl (fun lz' h => k p e s m args below meth c H locs cells slots lz' X ⟨zg_lh_store (fun w _ h => hc w (Option.some.inj h)) h, Y.2⟩)
theorem zg_as1 {a : Nat} (hd : decode μ.2.1 pc = .ok (.astore_n 1, 1)) (hc : ∀ w, o0 = some w → w.category = 1) (hn : 1 < μ.2.2.1)
    (k : zg_G Γ Ξ μ R Ω bc bs (pc + 1) (o0 :: some (zg_r Γ a) :: rs) st K N P V) : zg_G Γ Ξ μ R Ω bc bs pc (o0 :: o1 :: rs) (zg_r Γ a :: st) K N P V := by
  intro p e s m args below meth c H locs cells slots lz X Y
  exact lv_astore_n X.1 X.2.1 hd rfl (zg_lh_has Y.1) hn rfl (fun lz' h => k p e s m args below meth c H locs cells slots lz' X ⟨zg_lh_store (fun w _ h => hc w (Option.some.inj h)) h, Y.2⟩)
theorem zg_ls1 {z : Int} (hd : decode μ.2.1 pc = .ok (.lstore_n 1, 1)) (hc : ∀ w, o0 = some w → w.category = 1) (hn : 1 + 1 < μ.2.2.1)
    (k : zg_G Γ Ξ μ R Ω bc bs (pc + 1) (o0 :: some (zg_l z) :: none :: rs) st K N P V) : zg_G Γ Ξ μ R Ω bc bs pc (o0 :: o1 :: o2 :: rs) (zg_l z :: st) K N P V := by
  intro p e s m args below meth c H locs cells slots lz X Y
  exact lv_lstore_n X.1 X.2.1 hd rfl (zg_lh_has Y.1) hn rfl (fun lz' h => k p e s m args below meth c H locs cells slots lz' X ⟨zg_lh_store2 (fun w _ h => hc w (Option.some.inj h)) h, Y.2⟩)
theorem zg_inc1 {z n : Int} (hd : decode μ.2.1 pc = .ok (.iinc 1 n, 3)) (hc : ∀ w, o0 = some w → w.category = 1) (hn : 1 < μ.2.2.1)
    (k : zg_G Γ Ξ μ R Ω bc bs (pc + 3) (o0 :: some (zg_i (z + n)) :: rs) st K N P V) : zg_G Γ Ξ μ R Ω bc bs pc (o0 :: some (zg_i z) :: rs) st K N P V := by
  intro p e s m args below meth c H locs cells slots lz X Y
  obtain ⟨kx, hkx⟩ := List.getElem?_of_mem (zg_pr_mem.mpr (show (o0 :: some (zg_i z) :: rs)[1]? = some (some (zg_i z)) from rfl))
  exact lv_iinc (v := Int32.ofInt (z + n)) X.1 X.2.1 hd (zg_lh_has Y.1) hkx (Int32.ofInt_add z n).symm hn rfl (fun lz' h => k p e s m args below meth c H locs cells slots lz' X ⟨zg_lh_store (fun w _ h => hc w (Option.some.inj h)) h, Y.2⟩)
theorem zg_il2 {z : Int} (hd : decode μ.2.1 pc = .ok (.iload_n 2, 1))
    (k : zg_G Γ Ξ μ R Ω bc bs (pc + 1) (o0 :: o1 :: some (zg_i z) :: rs) (zg_i z :: st) K N P V) : zg_G Γ Ξ μ R Ω bc bs pc (o0 :: o1 :: some (zg_i z) :: rs) st K N P V := by
  intro p e s m args below meth c H locs cells slots lz X Y
  exact lv_iload_n X.1 X.2.1 hd rfl (Y.1.2.2 2 _ rfl) (k p e s m args below meth c H locs cells slots lz X Y)
theorem zg_ll2 {z : Int} (hd : decode μ.2.1 pc = .ok (.lload_n 2, 1))
    (k : zg_G Γ Ξ μ R Ω bc bs (pc + 1) (o0 :: o1 :: some (zg_l z) :: rs) (zg_l z :: st) K N P V) : zg_G Γ Ξ μ R Ω bc bs pc (o0 :: o1 :: some (zg_l z) :: rs) st K N P V := by
  intro p e s m args below meth c H locs cells slots lz X Y
  exact lv_lload_n X.1 X.2.1 hd rfl (Y.1.2.2 2 _ rfl) (k p e s m args below meth c H locs cells slots lz X Y)
theorem zg_al2 {a : Nat} (hd : decode μ.2.1 pc = .ok (.aload_n 2, 1))
    (k : zg_G Γ Ξ μ R Ω bc bs (pc + 1) (o0 :: o1 :: some (zg_r Γ a) :: rs) (zg_r Γ a :: st) K N P V) : zg_G Γ Ξ μ R Ω bc bs pc (o0 :: o1 :: some (zg_r Γ a) :: rs) st K N P V := by
  intro p e s m args below meth c H locs cells slots lz X Y
  exact lv_aload_n X.1 X.2.1 hd rfl (Y.1.2.2 2 _ rfl) (k p e s m args below meth c H locs cells slots lz X Y)
theorem zg_is2 {z : Int} (hd : decode μ.2.1 pc = .ok (.istore_n 2, 1)) (hc : ∀ w, o1 = some w → w.category = 1) (hn : 2 < μ.2.2.1)
    (k : zg_G Γ Ξ μ R Ω bc bs (pc + 1) (o0 :: o1 :: some (zg_i z) :: rs) st K N P V) : zg_G Γ Ξ μ R Ω bc bs pc (o0 :: o1 :: o2 :: rs) (zg_i z :: st) K N P V := by
  intro p e s m args below meth c H locs cells slots lz X Y
  exact lv_istore_n X.1 X.2.1 hd rfl (zg_lh_has Y.1) hn rfl (fun lz' h => k p e s m args below meth c H locs cells slots lz' X ⟨zg_lh_store (fun w _ h => hc w (Option.some.inj h)) h, Y.2⟩)
theorem zg_as2 {a : Nat} (hd : decode μ.2.1 pc = .ok (.astore_n 2, 1)) (hc : ∀ w, o1 = some w → w.category = 1) (hn : 2 < μ.2.2.1)
    (k : zg_G Γ Ξ μ R Ω bc bs (pc + 1) (o0 :: o1 :: some (zg_r Γ a) :: rs) st K N P V) : zg_G Γ Ξ μ R Ω bc bs pc (o0 :: o1 :: o2 :: rs) (zg_r Γ a :: st) K N P V := by
  intro p e s m args below meth c H locs cells slots lz X Y
  exact lv_astore_n X.1 X.2.1 hd rfl (zg_lh_has Y.1) hn rfl (fun lz' h => k p e s m args below meth c H locs cells slots lz' X ⟨zg_lh_store (fun w _ h => hc w (Option.some.inj h)) h, Y.2⟩)
theorem zg_ls2 {z : Int} (hd : decode μ.2.1 pc = .ok (.lstore_n 2, 1)) (hc : ∀ w, o1 = some w → w.category = 1) (hn : 2 + 1 < μ.2.2.1)
    (k : zg_G Γ Ξ μ R Ω bc bs (pc + 1) (o0 :: o1 :: some (zg_l z) :: none :: rs) st K N P V) : zg_G Γ Ξ μ R Ω bc bs pc (o0 :: o1 :: o2 :: o3 :: rs) (zg_l z :: st) K N P V := by
  intro p e s m args below meth c H locs cells slots lz X Y
  exact lv_lstore_n X.1 X.2.1 hd rfl (zg_lh_has Y.1) hn rfl (fun lz' h => k p e s m args below meth c H locs cells slots lz' X ⟨zg_lh_store2 (fun w _ h => hc w (Option.some.inj h)) h, Y.2⟩)
theorem zg_inc2 {z n : Int} (hd : decode μ.2.1 pc = .ok (.iinc 2 n, 3)) (hc : ∀ w, o1 = some w → w.category = 1) (hn : 2 < μ.2.2.1)
    (k : zg_G Γ Ξ μ R Ω bc bs (pc + 3) (o0 :: o1 :: some (zg_i (z + n)) :: rs) st K N P V) : zg_G Γ Ξ μ R Ω bc bs pc (o0 :: o1 :: some (zg_i z) :: rs) st K N P V := by
  intro p e s m args below meth c H locs cells slots lz X Y
  obtain ⟨kx, hkx⟩ := List.getElem?_of_mem (zg_pr_mem.mpr (show (o0 :: o1 :: some (zg_i z) :: rs)[2]? = some (some (zg_i z)) from rfl))
  exact lv_iinc (v := Int32.ofInt (z + n)) X.1 X.2.1 hd (zg_lh_has Y.1) hkx (Int32.ofInt_add z n).symm hn rfl (fun lz' h => k p e s m args below meth c H locs cells slots lz' X ⟨zg_lh_store (fun w _ h => hc w (Option.some.inj h)) h, Y.2⟩)
theorem zg_il3 {z : Int} (hd : decode μ.2.1 pc = .ok (.iload_n 3, 1))
    (k : zg_G Γ Ξ μ R Ω bc bs (pc + 1) (o0 :: o1 :: o2 :: some (zg_i z) :: rs) (zg_i z :: st) K N P V) : zg_G Γ Ξ μ R Ω bc bs pc (o0 :: o1 :: o2 :: some (zg_i z) :: rs) st K N P V := by
  intro p e s m args below meth c H locs cells slots lz X Y
  exact lv_iload_n X.1 X.2.1 hd rfl (Y.1.2.2 3 _ rfl) (k p e s m args below meth c H locs cells slots lz X Y)
theorem zg_ll3 {z : Int} (hd : decode μ.2.1 pc = .ok (.lload_n 3, 1))
    (k : zg_G Γ Ξ μ R Ω bc bs (pc + 1) (o0 :: o1 :: o2 :: some (zg_l z) :: rs) (zg_l z :: st) K N P V) : zg_G Γ Ξ μ R Ω bc bs pc (o0 :: o1 :: o2 :: some (zg_l z) :: rs) st K N P V := by
  intro p e s m args below meth c H locs cells slots lz X Y
  exact lv_lload_n X.1 X.2.1 hd rfl (Y.1.2.2 3 _ rfl) (k p e s m args below meth c H locs cells slots lz X Y)
theorem zg_al3 {a : Nat} (hd : decode μ.2.1 pc = .ok (.aload_n 3, 1))
    (k : zg_G Γ Ξ μ R Ω bc bs (pc + 1) (o0 :: o1 :: o2 :: some (zg_r Γ a) :: rs) (zg_r Γ a :: st) K N P V) : zg_G Γ Ξ μ R Ω bc bs pc (o0 :: o1 :: o2 :: some (zg_r Γ a) :: rs) st K N P V := by
  intro p e s m args below meth c H locs cells slots lz X Y
  exact lv_aload_n X.1 X.2.1 hd rfl (Y.1.2.2 3 _ rfl) (k p e s m args below meth c H locs cells slots lz X Y)
theorem zg_is3 {z : Int} (hd : decode μ.2.1 pc = .ok (.istore_n 3, 1)) (hc : ∀ w, o2 = some w → w.category = 1) (hn : 3 < μ.2.2.1)
    (k : zg_G Γ Ξ μ R Ω bc bs (pc + 1) (o0 :: o1 :: o2 :: some (zg_i z) :: rs) st K N P V) : zg_G Γ Ξ μ R Ω bc bs pc (o0 :: o1 :: o2 :: o3 :: rs) (zg_i z :: st) K N P V := by
  intro p e s m args below meth c H locs cells slots lz X Y
  exact lv_istore_n X.1 X.2.1 hd rfl (zg_lh_has Y.1) hn rfl (fun lz' h => k p e s m args below meth c H locs cells slots lz' X ⟨zg_lh_store (fun w _ h => hc w (Option.some.inj h)) h, Y.2⟩)
theorem zg_as3 {a : Nat} (hd : decode μ.2.1 pc = .ok (.astore_n 3, 1)) (hc : ∀ w, o2 = some w → w.category = 1) (hn : 3 < μ.2.2.1)
    (k : zg_G Γ Ξ μ R Ω bc bs (pc + 1) (o0 :: o1 :: o2 :: some (zg_r Γ a) :: rs) st K N P V) : zg_G Γ Ξ μ R Ω bc bs pc (o0 :: o1 :: o2 :: o3 :: rs) (zg_r Γ a :: st) K N P V := by
  intro p e s m args below meth c H locs cells slots lz X Y
  exact lv_astore_n X.1 X.2.1 hd rfl (zg_lh_has Y.1) hn rfl (fun lz' h => k p e s m args below meth c H locs cells slots lz' X ⟨zg_lh_store (fun w _ h => hc w (Option.some.inj h)) h, Y.2⟩)
theorem zg_ls3 {z : Int} (hd : decode μ.2.1 pc = .ok (.lstore_n 3, 1)) (hc : ∀ w, o2 = some w → w.category = 1) (hn : 3 + 1 < μ.2.2.1)
    (k : zg_G Γ Ξ μ R Ω bc bs (pc + 1) (o0 :: o1 :: o2 :: some (zg_l z) :: none :: rs) st K N P V) : zg_G Γ Ξ μ R Ω bc bs pc (o0 :: o1 :: o2 :: o3 :: o4 :: rs) (zg_l z :: st) K N P V := by
  intro p e s m args below meth c H locs cells slots lz X Y
  exact lv_lstore_n X.1 X.2.1 hd rfl (zg_lh_has Y.1) hn rfl (fun lz' h => k p e s m args below meth c H locs cells slots lz' X ⟨zg_lh_store2 (fun w _ h => hc w (Option.some.inj h)) h, Y.2⟩)
theorem zg_inc3 {z n : Int} (hd : decode μ.2.1 pc = .ok (.iinc 3 n, 3)) (hc : ∀ w, o2 = some w → w.category = 1) (hn : 3 < μ.2.2.1)
    (k : zg_G Γ Ξ μ R Ω bc bs (pc + 3) (o0 :: o1 :: o2 :: some (zg_i (z + n)) :: rs) st K N P V) : zg_G Γ Ξ μ R Ω bc bs pc (o0 :: o1 :: o2 :: some (zg_i z) :: rs) st K N P V := by
  intro p e s m args below meth c H locs cells slots lz X Y
  obtain ⟨kx, hkx⟩ := List.getElem?_of_mem (zg_pr_mem.mpr (show (o0 :: o1 :: o2 :: some (zg_i z) :: rs)[3]? = some (some (zg_i z)) from rfl))
  exact lv_iinc (v := Int32.ofInt (z + n)) X.1 X.2.1 hd (zg_lh_has Y.1) hkx (Int32.ofInt_add z n).symm hn rfl (fun lz' h => k p e s m args below meth c H locs cells slots lz' X ⟨zg_lh_store (fun w _ h => hc w (Option.some.inj h)) h, Y.2⟩)
theorem zg_il4 {z : Int} (hd : decode μ.2.1 pc = .ok (.iload 4, 2))
    (k : zg_G Γ Ξ μ R Ω bc bs (pc + 2) (o0 :: o1 :: o2 :: o3 :: some (zg_i z) :: rs) (zg_i z :: st) K N P V) : zg_G Γ Ξ μ R Ω bc bs pc (o0 :: o1 :: o2 :: o3 :: some (zg_i z) :: rs) st K N P V := by
  intro p e s m args below meth c H locs cells slots lz X Y
  exact lv_iload X.1 X.2.1 hd (Y.1.2.2 4 _ rfl) (k p e s m args below meth c H locs cells slots lz X Y)
theorem zg_ll4 {z : Int} (hd : decode μ.2.1 pc = .ok (.lload 4, 2))
    (k : zg_G Γ Ξ μ R Ω bc bs (pc + 2) (o0 :: o1 :: o2 :: o3 :: some (zg_l z) :: rs) (zg_l z :: st) K N P V) : zg_G Γ Ξ μ R Ω bc bs pc (o0 :: o1 :: o2 :: o3 :: some (zg_l z) :: rs) st K N P V := by
  intro p e s m args below meth c H locs cells slots lz X Y
  exact lv_lload X.1 X.2.1 hd (Y.1.2.2 4 _ rfl) (k p e s m args below meth c H locs cells slots lz X Y)
theorem zg_al4 {a : Nat} (hd : decode μ.2.1 pc = .ok (.aload 4, 2))
    (k : zg_G Γ Ξ μ R Ω bc bs (pc + 2) (o0 :: o1 :: o2 :: o3 :: some (zg_r Γ a) :: rs) (zg_r Γ a :: st) K N P V) : zg_G Γ Ξ μ R Ω bc bs pc (o0 :: o1 :: o2 :: o3 :: some (zg_r Γ a) :: rs) st K N P V := by
  intro p e s m args below meth c H locs cells slots lz X Y
  exact lv_aload X.1 X.2.1 hd (Y.1.2.2 4 _ rfl) (k p e s m args below meth c H locs cells slots lz X Y)
theorem zg_is4 {z : Int} (hd : decode μ.2.1 pc = .ok (.istore 4, 2)) (hc : ∀ w, o3 = some w → w.category = 1) (hn : 4 < μ.2.2.1)
    (k : zg_G Γ Ξ μ R Ω bc bs (pc + 2) (o0 :: o1 :: o2 :: o3 :: some (zg_i z) :: rs) st K N P V) : zg_G Γ Ξ μ R Ω bc bs pc (o0 :: o1 :: o2 :: o3 :: o4 :: rs) (zg_i z :: st) K N P V := by
  intro p e s m args below meth c H locs cells slots lz X Y
  exact lv_istore X.1 X.2.1 hd (zg_lh_has Y.1) hn rfl (fun lz' h => k p e s m args below meth c H locs cells slots lz' X ⟨zg_lh_store (fun w _ h => hc w (Option.some.inj h)) h, Y.2⟩)
theorem zg_as4 {a : Nat} (hd : decode μ.2.1 pc = .ok (.astore 4, 2)) (hc : ∀ w, o3 = some w → w.category = 1) (hn : 4 < μ.2.2.1)
    (k : zg_G Γ Ξ μ R Ω bc bs (pc + 2) (o0 :: o1 :: o2 :: o3 :: some (zg_r Γ a) :: rs) st K N P V) : zg_G Γ Ξ μ R Ω bc bs pc (o0 :: o1 :: o2 :: o3 :: o4 :: rs) (zg_r Γ a :: st) K N P V := by
  intro p e s m args below meth c H locs cells slots lz X Y
  exact lv_astore X.1 X.2.1 hd (zg_lh_has Y.1) hn rfl (fun lz' h => k p e s m args below meth c H locs cells slots lz' X ⟨zg_lh_store (fun w _ h => hc w (Option.some.inj h)) h, Y.2⟩)
theorem zg_ls4 {z : Int} (hd : decode μ.2.1 pc = .ok (.lstore 4, 2)) (hc : ∀ w, o3 = some w → w.category = 1) (hn : 4 + 1 < μ.2.2.1)
    (k : zg_G Γ Ξ μ R Ω bc bs (pc + 2) (o0 :: o1 :: o2 :: o3 :: some (zg_l z) :: none :: rs) st K N P V) : zg_G Γ Ξ μ R Ω bc bs pc (o0 :: o1 :: o2 :: o3 :: o4 :: o5 :: rs) (zg_l z :: st) K N P V := by
  intro p e s m args below meth c H locs cells slots lz X Y
  exact lv_lstore X.1 X.2.1 hd (zg_lh_has Y.1) hn rfl (fun lz' h => k p e s m args below meth c H locs cells slots lz' X ⟨zg_lh_store2 (fun w _ h => hc w (Option.some.inj h)) h, Y.2⟩)
theorem zg_inc4 {z n : Int} (hd : decode μ.2.1 pc = .ok (.iinc 4 n, 3)) (hc : ∀ w, o3 = some w → w.category = 1) (hn : 4 < μ.2.2.1)
    (k : zg_G Γ Ξ μ R Ω bc bs (pc + 3) (o0 :: o1 :: o2 :: o3 :: some (zg_i (z + n)) :: rs) st K N P V) : zg_G Γ Ξ μ R Ω bc bs pc (o0 :: o1 :: o2 :: o3 :: some (zg_i z) :: rs) st K N P V := by
  intro p e s m args below meth c H locs cells slots lz X Y
  obtain ⟨kx, hkx⟩ := List.getElem?_of_mem (zg_pr_mem.mpr (show (o0 :: o1 :: o2 :: o3 :: some (zg_i z) :: rs)[4]? = some (some (zg_i z)) from rfl))
  exact lv_iinc (v := Int32.ofInt (z + n)) X.1 X.2.1 hd (zg_lh_has Y.1) hkx (Int32.ofInt_add z n).symm hn rfl (fun lz' h => k p e s m args below meth c H locs cells slots lz' X ⟨zg_lh_store (fun w _ h => hc w (Option.some.inj h)) h, Y.2⟩)
theorem zg_il5 {z : Int} (hd : decode μ.2.1 pc = .ok (.iload 5, 2))
    (k : zg_G Γ Ξ μ R Ω bc bs (pc + 2) (o0 :: o1 :: o2 :: o3 :: o4 :: some (zg_i z) :: rs) (zg_i z :: st) K N P V) : zg_G Γ Ξ μ R Ω bc bs pc (o0 :: o1 :: o2 :: o3 :: o4 :: some (zg_i z) :: rs) st K N P V := by
  intro p e s m args below meth c H locs cells slots lz X Y
  exact lv_iload X.1 X.2.1 hd (Y.1.2.2 5 _ rfl) (k p e s m args below meth c H locs cells slots lz X Y)
theorem zg_ll5 {z : Int} (hd : decode μ.2.1 pc = .ok (.lload 5, 2))
    (k : zg_G Γ Ξ μ R Ω bc bs (pc + 2) (o0 :: o1 :: o2 :: o3 :: o4 :: some (zg_l z) :: rs) (zg_l z :: st) K N P V) : zg_G Γ Ξ μ R Ω bc bs pc (o0 :: o1 :: o2 :: o3 :: o4 :: some (zg_l z) :: rs) st K N P V := by
  intro p e s m args below meth c H locs cells slots lz X Y
  exact lv_lload X.1 X.2.1 hd (Y.1.2.2 5 _ rfl) (k p e s m args below meth c H locs cells slots lz X Y)
theorem zg_al5 {a : Nat} (hd : decode μ.2.1 pc = .ok (.aload 5, 2))
    (k : zg_G Γ Ξ μ R Ω bc bs (pc + 2) (o0 :: o1 :: o2 :: o3 :: o4 :: some (zg_r Γ a) :: rs) (zg_r Γ a :: st) K N P V) : zg_G Γ Ξ μ R Ω bc bs pc (o0 :: o1 :: o2 :: o3 :: o4 :: some (zg_r Γ a) :: rs) st K N P V := by
  intro p e s m args below meth c H locs cells slots lz X Y
  exact lv_aload X.1 X.2.1 hd (Y.1.2.2 5 _ rfl) (k p e s m args below meth c H locs cells slots lz X Y)
theorem zg_is5 {z : Int} (hd : decode μ.2.1 pc = .ok (.istore 5, 2)) (hc : ∀ w, o4 = some w → w.category = 1) (hn : 5 < μ.2.2.1)
    (k : zg_G Γ Ξ μ R Ω bc bs (pc + 2) (o0 :: o1 :: o2 :: o3 :: o4 :: some (zg_i z) :: rs) st K N P V) : zg_G Γ Ξ μ R Ω bc bs pc (o0 :: o1 :: o2 :: o3 :: o4 :: o5 :: rs) (zg_i z :: st) K N P V := by
  intro p e s m args below meth c H locs cells slots lz X Y
  exact lv_istore X.1 X.2.1 hd (zg_lh_has Y.1) hn rfl (fun lz' h => k p e s m args below meth c H locs cells slots lz' X ⟨zg_lh_store (fun w _ h => hc w (Option.some.inj h)) h, Y.2⟩)
theorem zg_as5 {a : Nat} (hd : decode μ.2.1 pc = .ok (.astore 5, 2)) (hc : ∀ w, o4 = some w → w.category = 1) (hn : 5 < μ.2.2.1)
    (k : zg_G Γ Ξ μ R Ω bc bs (pc + 2) (o0 :: o1 :: o2 :: o3 :: o4 :: some (zg_r Γ a) :: rs) st K N P V) : zg_G Γ Ξ μ R Ω bc bs pc (o0 :: o1 :: o2 :: o3 :: o4 :: o5 :: rs) (zg_r Γ a :: st) K N P V := by
  intro p e s m args below meth c H locs cells slots lz X Y
  exact lv_astore X.1 X.2.1 hd (zg_lh_has Y.1) hn rfl (fun lz' h => k p e s m args below meth c H locs cells slots lz' X ⟨zg_lh_store (fun w _ h => hc w (Option.some.inj h)) h, Y.2⟩)
theorem zg_ls5 {z : Int} (hd : decode μ.2.1 pc = .ok (.lstore 5, 2)) (hc : ∀ w, o4 = some w → w.category = 1) (hn : 5 + 1 < μ.2.2.1)
    (k : zg_G Γ Ξ μ R Ω bc bs (pc + 2) (o0 :: o1 :: o2 :: o3 :: o4 :: some (zg_l z) :: none :: rs) st K N P V) : zg_G Γ Ξ μ R Ω bc bs pc (o0 :: o1 :: o2 :: o3 :: o4 :: o5 :: o6 :: rs) (zg_l z :: st) K N P V := by
  intro p e s m args below meth c H locs cells slots lz X Y
  exact lv_lstore X.1 X.2.1 hd (zg_lh_has Y.1) hn rfl (fun lz' h => k p e s m args below meth c H locs cells slots lz' X ⟨zg_lh_store2 (fun w _ h => hc w (Option.some.inj h)) h, Y.2⟩)
theorem zg_inc5 {z n : Int} (hd : decode μ.2.1 pc = .ok (.iinc 5 n, 3)) (hc : ∀ w, o4 = some w → w.category = 1) (hn : 5 < μ.2.2.1)
    (k : zg_G Γ Ξ μ R Ω bc bs (pc + 3) (o0 :: o1 :: o2 :: o3 :: o4 :: some (zg_i (z + n)) :: rs) st K N P V) : zg_G Γ Ξ μ R Ω bc bs pc (o0 :: o1 :: o2 :: o3 :: o4 :: some (zg_i z) :: rs) st K N P V := by
  intro p e s m args below meth c H locs cells slots lz X Y
  obtain ⟨kx, hkx⟩ := List.getElem?_of_mem (zg_pr_mem.mpr (show (o0 :: o1 :: o2 :: o3 :: o4 :: some (zg_i z) :: rs)[5]? = some (some (zg_i z)) from rfl))
  exact lv_iinc (v := Int32.ofInt (z + n)) X.1 X.2.1 hd (zg_lh_has Y.1) hkx (Int32.ofInt_add z n).symm hn rfl (fun lz' h => k p e s m args below meth c H locs cells slots lz' X ⟨zg_lh_store (fun w _ h => hc w (Option.some.inj h)) h, Y.2⟩)
theorem zg_il6 {z : Int} (hd : decode μ.2.1 pc = .ok (.iload 6, 2))
    (k : zg_G Γ Ξ μ R Ω bc bs (pc + 2) (o0 :: o1 :: o2 :: o3 :: o4 :: o5 :: some (zg_i z) :: rs) (zg_i z :: st) K N P V) : zg_G Γ Ξ μ R Ω bc bs pc (o0 :: o1 :: o2 :: o3 :: o4 :: o5 :: some (zg_i z) :: rs) st K N P V := by
  intro p e s m args below meth c H locs cells slots lz X Y
  exact lv_iload X.1 X.2.1 hd (Y.1.2.2 6 _ rfl) (k p e s m args below meth c H locs cells slots lz X Y)
theorem zg_ll6 {z : Int} (hd : decode μ.2.1 pc = .ok (.lload 6, 2))
    (k : zg_G Γ Ξ μ R Ω bc bs (pc + 2) (o0 :: o1 :: o2 :: o3 :: o4 :: o5 :: some (zg_l z) :: rs) (zg_l z :: st) K N P V) : zg_G Γ Ξ μ R Ω bc bs pc (o0 :: o1 :: o2 :: o3 :: o4 :: o5 :: some (zg_l z) :: rs) st K N P V := by
  intro p e s m args below meth c H locs cells slots lz X Y
  exact lv_lload X.1 X.2.1 hd (Y.1.2.2 6 _ rfl) (k p e s m args below meth c H locs cells slots lz X Y)
theorem zg_al6 {a : Nat} (hd : decode μ.2.1 pc = .ok (.aload 6, 2))
    (k : zg_G Γ Ξ μ R Ω bc bs (pc + 2) (o0 :: o1 :: o2 :: o3 :: o4 :: o5 :: some (zg_r Γ a) :: rs) (zg_r Γ a :: st) K N P V) : zg_G Γ Ξ μ R Ω bc bs pc (o0 :: o1 :: o2 :: o3 :: o4 :: o5 :: some (zg_r Γ a) :: rs) st K N P V := by
  intro p e s m args below meth c H locs cells slots lz X Y
  exact lv_aload X.1 X.2.1 hd (Y.1.2.2 6 _ rfl) (k p e s m args below meth c H locs cells slots lz X Y)
theorem zg_is6 {z : Int} (hd : decode μ.2.1 pc = .ok (.istore 6, 2)) (hc : ∀ w, o5 = some w → w.category = 1) (hn : 6 < μ.2.2.1)
    (k : zg_G Γ Ξ μ R Ω bc bs (pc + 2) (o0 :: o1 :: o2 :: o3 :: o4 :: o5 :: some (zg_i z) :: rs) st K N P V) : zg_G Γ Ξ μ R Ω bc bs pc (o0 :: o1 :: o2 :: o3 :: o4 :: o5 :: o6 :: rs) (zg_i z :: st) K N P V := by
  intro p e s m args below meth c H locs cells slots lz X Y
  exact lv_istore X.1 X.2.1 hd (zg_lh_has Y.1) hn rfl (fun lz' h => k p e s m args below meth c H locs cells slots lz' X ⟨zg_lh_store (fun w _ h => hc w (Option.some.inj h)) h, Y.2⟩)
theorem zg_as6 {a : Nat} (hd : decode μ.2.1 pc = .ok (.astore 6, 2)) (hc : ∀ w, o5 = some w → w.category = 1) (hn : 6 < μ.2.2.1)
    (k : zg_G Γ Ξ μ R Ω bc bs (pc + 2) (o0 :: o1 :: o2 :: o3 :: o4 :: o5 :: some (zg_r Γ a) :: rs) st K N P V) : zg_G Γ Ξ μ R Ω bc bs pc (o0 :: o1 :: o2 :: o3 :: o4 :: o5 :: o6 :: rs) (zg_r Γ a :: st) K N P V := by
  intro p e s m args below meth c H locs cells slots lz X Y
  exact lv_astore X.1 X.2.1 hd (zg_lh_has Y.1) hn rfl (fun lz' h => k p e s m args below meth c H locs cells slots lz' X ⟨zg_lh_store (fun w _ h => hc w (Option.some.inj h)) h, Y.2⟩)
theorem zg_ls6 {z : Int} (hd : decode μ.2.1 pc = .ok (.lstore 6, 2)) (hc : ∀ w, o5 = some w → w.category = 1) (hn : 6 + 1 < μ.2.2.1)
    (k : zg_G Γ Ξ μ R Ω bc bs (pc + 2) (o0 :: o1 :: o2 :: o3 :: o4 :: o5 :: some (zg_l z) :: none :: rs) st K N P V) : zg_G Γ Ξ μ R Ω bc bs pc (o0 :: o1 :: o2 :: o3 :: o4 :: o5 :: o6 :: o7 :: rs) (zg_l z :: st) K N P V := by
  intro p e s m args below meth c H locs cells slots lz X Y
  exact lv_lstore X.1 X.2.1 hd (zg_lh_has Y.1) hn rfl (fun lz' h => k p e s m args below meth c H locs cells slots lz' X ⟨zg_lh_store2 (fun w _ h => hc w (Option.some.inj h)) h, Y.2⟩)
theorem zg_inc6 {z n : Int} (hd : decode μ.2.1 pc = .ok (.iinc 6 n, 3)) (hc : ∀ w, o5 = some w → w.category = 1) (hn : 6 < μ.2.2.1)
    (k : zg_G Γ Ξ μ R Ω bc bs (pc + 3) (o0 :: o1 :: o2 :: o3 :: o4 :: o5 :: some (zg_i (z + n)) :: rs) st K N P V) : zg_G Γ Ξ μ R Ω bc bs pc (o0 :: o1 :: o2 :: o3 :: o4 :: o5 :: some (zg_i z) :: rs) st K N P V := by
  intro p e s m args below meth c H locs cells slots lz X Y
  obtain ⟨kx, hkx⟩ := List.getElem?_of_mem (zg_pr_mem.mpr (show (o0 :: o1 :: o2 :: o3 :: o4 :: o5 :: some (zg_i z) :: rs)[6]? = some (some (zg_i z)) from rfl))
  exact lv_iinc (v := Int32.ofInt (z + n)) X.1 X.2.1 hd (zg_lh_has Y.1) hkx (Int32.ofInt_add z n).symm hn rfl (fun lz' h => k p e s m args below meth c H locs cells slots lz' X ⟨zg_lh_store (fun w _ h => hc w (Option.some.inj h)) h, Y.2⟩)
theorem zg_il7 {z : Int} (hd : decode μ.2.1 pc = .ok (.iload 7, 2))
    (k : zg_G Γ Ξ μ R Ω bc bs (pc + 2) (o0 :: o1 :: o2 :: o3 :: o4 :: o5 :: o6 :: some (zg_i z) :: rs) (zg_i z :: st) K N P V) : zg_G Γ Ξ μ R Ω bc bs pc (o0 :: o1 :: o2 :: o3 :: o4 :: o5 :: o6 :: some (zg_i z) :: rs) st K N P V := by
  intro p e s m args below meth c H locs cells slots lz X Y
  exact lv_iload X.1 X.2.1 hd (Y.1.2.2 7 _ rfl) (k p e s m args below meth c H locs cells slots lz X Y)
theorem zg_ll7 {z : Int} (hd : decode μ.2.1 pc = .ok (.lload 7, 2))
    (k : zg_G Γ Ξ μ R Ω bc bs (pc + 2) (o0 :: o1 :: o2 :: o3 :: o4 :: o5 :: o6 :: some (zg_l z) :: rs) (zg_l z :: st) K N P V) : zg_G Γ Ξ μ R Ω bc bs pc (o0 :: o1 :: o2 :: o3 :: o4 :: o5 :: o6 :: some (zg_l z) :: rs) st K N P V := by
  intro p e s m args below meth c H locs cells slots lz X Y
  exact lv_lload X.1 X.2.1 hd (Y.1.2.2 7 _ rfl) (k p e s m args below meth c H locs cells slots lz X Y)
theorem zg_al7 {a : Nat} (hd : decode μ.2.1 pc = .ok (.aload 7, 2))
    (k : zg_G Γ Ξ μ R Ω bc bs (pc + 2) (o0 :: o1 :: o2 :: o3 :: o4 :: o5 :: o6 :: some (zg_r Γ a) :: rs) (zg_r Γ a :: st) K N P V) : zg_G Γ Ξ μ R Ω bc bs pc (o0 :: o1 :: o2 :: o3 :: o4 :: o5 :: o6 :: some (zg_r Γ a) :: rs) st K N P V := by
  intro p e s m args below meth c H locs cells slots lz X Y
  exact lv_aload X.1 X.2.1 hd (Y.1.2.2 7 _ rfl) (k p e s m args below meth c H locs cells slots lz X Y)
theorem zg_is7 {z : Int} (hd : decode μ.2.1 pc = .ok (.istore 7, 2)) (hc : ∀ w, o6 = some w → w.category = 1) (hn : 7 < μ.2.2.1)
    (k : zg_G Γ Ξ μ R Ω bc bs (pc + 2) (o0 :: o1 :: o2 :: o3 :: o4 :: o5 :: o6 :: some (zg_i z) :: rs) st K N P V) : zg_G Γ Ξ μ R Ω bc bs pc (o0 :: o1 :: o2 :: o3 :: o4 :: o5 :: o6 :: o7 :: rs) (zg_i z :: st) K N P V := by
  intro p e s m args below meth c H locs cells slots lz X Y
  exact lv_istore X.1 X.2.1 hd (zg_lh_has Y.1) hn rfl (fun lz' h => k p e s m args below meth c H locs cells slots lz' X ⟨zg_lh_store (fun w _ h => hc w (Option.some.inj h)) h, Y.2⟩)
theorem zg_as7 {a : Nat} (hd : decode μ.2.1 pc = .ok (.astore 7, 2)) (hc : ∀ w, o6 = some w → w.category = 1) (hn : 7 < μ.2.2.1)
    (k : zg_G Γ Ξ μ R Ω bc bs (pc + 2) (o0 :: o1 :: o2 :: o3 :: o4 :: o5 :: o6 :: some (zg_r Γ a) :: rs) st K N P V) : zg_G Γ Ξ μ R Ω bc bs pc (o0 :: o1 :: o2 :: o3 :: o4 :: o5 :: o6 :: o7 :: rs) (zg_r Γ a :: st) K N P V := by
  intro p e s m args below meth c H locs cells slots lz X Y
  exact lv_astore X.1 X.2.1 hd (zg_lh_has Y.1) hn rfl (fun lz' h => k p e s m args below meth c H locs cells slots lz' X ⟨zg_lh_store (fun w _ h => hc w (Option.some.inj h)) h, Y.2⟩)
theorem zg_ls7 {z : Int} (hd : decode μ.2.1 pc = .ok (.lstore 7, 2)) (hc : ∀ w, o6 = some w → w.category = 1) (hn : 7 + 1 < μ.2.2.1)
    (k : zg_G Γ Ξ μ R Ω bc bs (pc + 2) (o0 :: o1 :: o2 :: o3 :: o4 :: o5 :: o6 :: some (zg_l z) :: none :: rs) st K N P V) : zg_G Γ Ξ μ R Ω bc bs pc (o0 :: o1 :: o2 :: o3 :: o4 :: o5 :: o6 :: o7 :: o8 :: rs) (zg_l z :: st) K N P V := by
  intro p e s m args below meth c H locs cells slots lz X Y
  exact lv_lstore X.1 X.2.1 hd (zg_lh_has Y.1) hn rfl (fun lz' h => k p e s m args below meth c H locs cells slots lz' X ⟨zg_lh_store2 (fun w _ h => hc w (Option.some.inj h)) h, Y.2⟩)
theorem zg_inc7 {z n : Int} (hd : decode μ.2.1 pc = .ok (.iinc 7 n, 3)) (hc : ∀ w, o6 = some w → w.category = 1) (hn : 7 < μ.2.2.1)
    (k : zg_G Γ Ξ μ R Ω bc bs (pc + 3) (o0 :: o1 :: o2 :: o3 :: o4 :: o5 :: o6 :: some (zg_i (z + n)) :: rs) st K N P V) : zg_G Γ Ξ μ R Ω bc bs pc (o0 :: o1 :: o2 :: o3 :: o4 :: o5 :: o6 :: some (zg_i z) :: rs) st K N P V := by
  intro p e s m args below meth c H locs cells slots lz X Y
  obtain ⟨kx, hkx⟩ := List.getElem?_of_mem (zg_pr_mem.mpr (show (o0 :: o1 :: o2 :: o3 :: o4 :: o5 :: o6 :: some (zg_i z) :: rs)[7]? = some (some (zg_i z)) from rfl))
  exact lv_iinc (v := Int32.ofInt (z + n)) X.1 X.2.1 hd (zg_lh_has Y.1) hkx (Int32.ofInt_add z n).symm hn rfl (fun lz' h => k p e s m args below meth c H locs cells slots lz' X ⟨zg_lh_store (fun w _ h => hc w (Option.some.inj h)) h, Y.2⟩)
theorem zg_il8 {z : Int} (hd : decode μ.2.1 pc = .ok (.iload 8, 2))
    (k : zg_G Γ Ξ μ R Ω bc bs (pc + 2) (o0 :: o1 :: o2 :: o3 :: o4 :: o5 :: o6 :: o7 :: some (zg_i z) :: rs) (zg_i z :: st) K N P V) : zg_G Γ Ξ μ R Ω bc bs pc (o0 :: o1 :: o2 :: o3 :: o4 :: o5 :: o6 :: o7 :: some (zg_i z) :: rs) st K N P V := by
  intro p e s m args below meth c H locs cells slots lz X Y
  exact lv_iload X.1 X.2.1 hd (Y.1.2.2 8 _ rfl) (k p e s m args below meth c H locs cells slots lz X Y)
theorem zg_ll8 {z : Int} (hd : decode μ.2.1 pc = .ok (.lload 8, 2))
    (k : zg_G Γ Ξ μ R Ω bc bs (pc + 2) (o0 :: o1 :: o2 :: o3 :: o4 :: o5 :: o6 :: o7 :: some (zg_l z) :: rs) (zg_l z :: st) K N P V) : zg_G Γ Ξ μ R Ω bc bs pc (o0 :: o1 :: o2 :: o3 :: o4 :: o5 :: o6 :: o7 :: some (zg_l z) :: rs) st K N P V := by
  intro p e s m args below meth c H locs cells slots lz X Y
  exact lv_lload X.1 X.2.1 hd (Y.1.2.2 8 _ rfl) (k p e s m args below meth c H locs cells slots lz X Y)
theorem zg_al8 {a : Nat} (hd : decode μ.2.1 pc = .ok (.aload 8, 2))
    (k : zg_G Γ Ξ μ R Ω bc bs (pc + 2) (o0 :: o1 :: o2 :: o3 :: o4 :: o5 :: o6 :: o7 :: some (zg_r Γ a) :: rs) (zg_r Γ a :: st) K N P V) : zg_G Γ Ξ μ R Ω bc bs pc (o0 :: o1 :: o2 :: o3 :: o4 :: o5 :: o6 :: o7 :: some (zg_r Γ a) :: rs) st K N P V := by
  intro p e s m args below meth c H locs cells slots lz X Y
  exact lv_aload X.1 X.2.1 hd (Y.1.2.2 8 _ rfl) (k p e s m args below meth c H locs cells slots lz X Y)
theorem zg_is8 {z : Int} (hd : decode μ.2.1 pc = .ok (.istore 8, 2)) (hc : ∀ w, o7 = some w → w.category = 1) (hn : 8 < μ.2.2.1)
    (k : zg_G Γ Ξ μ R Ω bc bs (pc + 2) (o0 :: o1 :: o2 :: o3 :: o4 :: o5 :: o6 :: o7 :: some (zg_i z) :: rs) st K N P V) : zg_G Γ Ξ μ R Ω bc bs pc (o0 :: o1 :: o2 :: o3 :: o4 :: o5 :: o6 :: o7 :: o8 :: rs) (zg_i z :: st) K N P V := by
  intro p e s m args below meth c H locs cells slots lz X Y
  exact lv_istore X.1 X.2.1 hd (zg_lh_has Y.1) hn rfl (fun lz' h => k p e s m args below meth c H locs cells slots lz' X ⟨zg_lh_store (fun w _ h => hc w (Option.some.inj h)) h, Y.2⟩)
theorem zg_as8 {a : Nat} (hd : decode μ.2.1 pc = .ok (.astore 8, 2)) (hc : ∀ w, o7 = some w → w.category = 1) (hn : 8 < μ.2.2.1)
    (k : zg_G Γ Ξ μ R Ω bc bs (pc + 2) (o0 :: o1 :: o2 :: o3 :: o4 :: o5 :: o6 :: o7 :: some (zg_r Γ a) :: rs) st K N P V) : zg_G Γ Ξ μ R Ω bc bs pc (o0 :: o1 :: o2 :: o3 :: o4 :: o5 :: o6 :: o7 :: o8 :: rs) (zg_r Γ a :: st) K N P V := by
  intro p e s m args below meth c H locs cells slots lz X Y
  exact lv_astore X.1 X.2.1 hd (zg_lh_has Y.1) hn rfl (fun lz' h => k p e s m args below meth c H locs cells slots lz' X ⟨zg_lh_store (fun w _ h => hc w (Option.some.inj h)) h, Y.2⟩)
theorem zg_ls8 {z : Int} (hd : decode μ.2.1 pc = .ok (.lstore 8, 2)) (hc : ∀ w, o7 = some w → w.category = 1) (hn : 8 + 1 < μ.2.2.1)
    (k : zg_G Γ Ξ μ R Ω bc bs (pc + 2) (o0 :: o1 :: o2 :: o3 :: o4 :: o5 :: o6 :: o7 :: some (zg_l z) :: none :: rs) st K N P V) : zg_G Γ Ξ μ R Ω bc bs pc (o0 :: o1 :: o2 :: o3 :: o4 :: o5 :: o6 :: o7 :: o8 :: o9 :: rs) (zg_l z :: st) K N P V := by
  intro p e s m args below meth c H locs cells slots lz X Y
  exact lv_lstore X.1 X.2.1 hd (zg_lh_has Y.1) hn rfl (fun lz' h => k p e s m args below meth c H locs cells slots lz' X ⟨zg_lh_store2 (fun w _ h => hc w (Option.some.inj h)) h, Y.2⟩)
theorem zg_inc8 {z n : Int} (hd : decode μ.2.1 pc = .ok (.iinc 8 n, 3)) (hc : ∀ w, o7 = some w → w.category = 1) (hn : 8 < μ.2.2.1)
    (k : zg_G Γ Ξ μ R Ω bc bs (pc + 3) (o0 :: o1 :: o2 :: o3 :: o4 :: o5 :: o6 :: o7 :: some (zg_i (z + n)) :: rs) st K N P V) : zg_G Γ Ξ μ R Ω bc bs pc (o0 :: o1 :: o2 :: o3 :: o4 :: o5 :: o6 :: o7 :: some (zg_i z) :: rs) st K N P V := by
  intro p e s m args below meth c H locs cells slots lz X Y
  obtain ⟨kx, hkx⟩ := List.getElem?_of_mem (zg_pr_mem.mpr (show (o0 :: o1 :: o2 :: o3 :: o4 :: o5 :: o6 :: o7 :: some (zg_i z) :: rs)[8]? = some (some (zg_i z)) from rfl))
  exact lv_iinc (v := Int32.ofInt (z + n)) X.1 X.2.1 hd (zg_lh_has Y.1) hkx (Int32.ofInt_add z n).symm hn rfl (fun lz' h => k p e s m args below meth c H locs cells slots lz' X ⟨zg_lh_store (fun w _ h => hc w (Option.some.inj h)) h, Y.2⟩)
theorem zg_il9 {z : Int} (hd : decode μ.2.1 pc = .ok (.iload 9, 2))
    (k : zg_G Γ Ξ μ R Ω bc bs (pc + 2) (o0 :: o1 :: o2 :: o3 :: o4 :: o5 :: o6 :: o7 :: o8 :: some (zg_i z) :: rs) (zg_i z :: st) K N P V) : zg_G Γ Ξ μ R Ω bc bs pc (o0 :: o1 :: o2 :: o3 :: o4 :: o5 :: o6 :: o7 :: o8 :: some (zg_i z) :: rs) st K N P V := by
  intro p e s m args below meth c H locs cells slots lz X Y
  exact lv_iload X.1 X.2.1 hd (Y.1.2.2 9 _ rfl) (k p e s m args below meth c H locs cells slots lz X Y)
theorem zg_ll9 {z : Int} (hd : decode μ.2.1 pc = .ok (.lload 9, 2))
    (k : zg_G Γ Ξ μ R Ω bc bs (pc + 2) (o0 :: o1 :: o2 :: o3 :: o4 :: o5 :: o6 :: o7 :: o8 :: some (zg_l z) :: rs) (zg_l z :: st) K N P V) : zg_G Γ Ξ μ R Ω bc bs pc (o0 :: o1 :: o2 :: o3 :: o4 :: o5 :: o6 :: o7 :: o8 :: some (zg_l z) :: rs) st K N P V := by
  intro p e s m args below meth c H locs cells slots lz X Y
  exact lv_lload X.1 X.2.1 hd (Y.1.2.2 9 _ rfl) (k p e s m args below meth c H locs cells slots lz X Y)
theorem zg_al9 {a : Nat} (hd : decode μ.2.1 pc = .ok (.aload 9, 2))
    (k : zg_G Γ Ξ μ R Ω bc bs (pc + 2) (o0 :: o1 :: o2 :: o3 :: o4 :: o5 :: o6 :: o7 :: o8 :: some (zg_r Γ a) :: rs) (zg_r Γ a :: st) K N P V) : zg_G Γ Ξ μ R Ω bc bs pc (o0 :: o1 :: o2 :: o3 :: o4 :: o5 :: o6 :: o7 :: o8 :: some (zg_r Γ a) :: rs) st K N P V := by
  intro p e s m args below meth c H locs cells slots lz X Y
  exact lv_aload X.1 X.2.1 hd (Y.1.2.2 9 _ rfl) (k p e s m args below meth c H locs cells slots lz X Y)
theorem zg_is9 {z : Int} (hd : decode μ.2.1 pc = .ok (.istore 9, 2)) (hc : ∀ w, o8 = some w → w.category = 1) (hn : 9 < μ.2.2.1)
    (k : zg_G Γ Ξ μ R Ω bc bs (pc + 2) (o0 :: o1 :: o2 :: o3 :: o4 :: o5 :: o6 :: o7 :: o8 :: some (zg_i z) :: rs) st K N P V) : zg_G Γ Ξ μ R Ω bc bs pc (o0 :: o1 :: o2 :: o3 :: o4 :: o5 :: o6 :: o7 :: o8 :: o9 :: rs) (zg_i z :: st) K N P V := by
  intro p e s m args below meth c H locs cells slots lz X Y
  exact lv_istore X.1 X.2.1 hd (zg_lh_has Y.1) hn rfl (fun lz' h => k p e s m args below meth c H locs cells slots lz' X ⟨zg_lh_store (fun w _ h => hc w (Option.some.inj h)) h, Y.2⟩)
theorem zg_as9 {a : Nat} (hd : decode μ.2.1 pc = .ok (.astore 9, 2)) (hc : ∀ w, o8 = some w → w.category = 1) (hn : 9 < μ.2.2.1)
    (k : zg_G Γ Ξ μ R Ω bc bs (pc + 2) (o0 :: o1 :: o2 :: o3 :: o4 :: o5 :: o6 :: o7 :: o8 :: some (zg_r Γ a) :: rs) st K N P V) : zg_G Γ Ξ μ R Ω bc bs pc (o0 :: o1 :: o2 :: o3 :: o4 :: o5 :: o6 :: o7 :: o8 :: o9 :: rs) (zg_r Γ a :: st) K N P V := by
  intro p e s m args below meth c H locs cells slots lz X Y
  exact lv_astore X.1 X.2.1 hd (zg_lh_has Y.1) hn rfl (fun lz' h => k p e s m args below meth c H locs cells slots lz' X ⟨zg_lh_store (fun w _ h => hc w (Option.some.inj h)) h, Y.2⟩)
theorem zg_ls9 {z : Int} (hd : decode μ.2.1 pc = .ok (.lstore 9, 2)) (hc : ∀ w, o8 = some w → w.category = 1) (hn : 9 + 1 < μ.2.2.1)
    (k : zg_G Γ Ξ μ R Ω bc bs (pc + 2) (o0 :: o1 :: o2 :: o3 :: o4 :: o5 :: o6 :: o7 :: o8 :: some (zg_l z) :: none :: rs) st K N P V) : zg_G Γ Ξ μ R Ω bc bs pc (o0 :: o1 :: o2 :: o3 :: o4 :: o5 :: o6 :: o7 :: o8 :: o9 :: o10 :: rs) (zg_l z :: st) K N P V := by
  intro p e s m args below meth c H locs cells slots lz X Y
  exact lv_lstore X.1 X.2.1 hd (zg_lh_has Y.1) hn rfl (fun lz' h => k p e s m args below meth c H locs cells slots lz' X ⟨zg_lh_store2 (fun w _ h => hc w (Option.some.inj h)) h, Y.2⟩)
theorem zg_inc9 {z n : Int} (hd : decode μ.2.1 pc = .ok (.iinc 9 n, 3)) (hc : ∀ w, o8 = some w → w.category = 1) (hn : 9 < μ.2.2.1)
    (k : zg_G Γ Ξ μ R Ω bc bs (pc + 3) (o0 :: o1 :: o2 :: o3 :: o4 :: o5 :: o6 :: o7 :: o8 :: some (zg_i (z + n)) :: rs) st K N P V) : zg_G Γ Ξ μ R Ω bc bs pc (o0 :: o1 :: o2 :: o3 :: o4 :: o5 :: o6 :: o7 :: o8 :: some (zg_i z) :: rs) st K N P V := by
  intro p e s m args below meth c H locs cells slots lz X Y
  obtain ⟨kx, hkx⟩ := List.getElem?_of_mem (zg_pr_mem.mpr (show (o0 :: o1 :: o2 :: o3 :: o4 :: o5 :: o6 :: o7 :: o8 :: some (zg_i z) :: rs)[9]? = some (some (zg_i z)) from rfl))
  exact lv_iinc (v := Int32.ofInt (z + n)) X.1 X.2.1 hd (zg_lh_has Y.1) hkx (Int32.ofInt_add z n).symm hn rfl (fun lz' h => k p e s m args below meth c H locs cells slots lz' X ⟨zg_lh_store (fun w _ h => hc w (Option.some.inj h)) h, Y.2⟩)
theorem zg_il10 {z : Int} (hd : decode μ.2.1 pc = .ok (.iload 10, 2))
    (k : zg_G Γ Ξ μ R Ω bc bs (pc + 2) (o0 :: o1 :: o2 :: o3 :: o4 :: o5 :: o6 :: o7 :: o8 :: o9 :: some (zg_i z) :: rs) (zg_i z :: st) K N P V) : zg_G Γ Ξ μ R Ω bc bs pc (o0 :: o1 :: o2 :: o3 :: o4 :: o5 :: o6 :: o7 :: o8 :: o9 :: some (zg_i z) :: rs) st K N P V := by
  intro p e s m args below meth c H locs cells slots lz X Y
  exact lv_iload X.1 X.2.1 hd (Y.1.2.2 10 _ rfl) (k p e s m args below meth c H locs cells slots lz X Y)
theorem zg_ll10 {z : Int} (hd : decode μ.2.1 pc = .ok (.lload 10, 2))
    (k : zg_G Γ Ξ μ R Ω bc bs (pc + 2) (o0 :: o1 :: o2 :: o3 :: o4 :: o5 :: o6 :: o7 :: o8 :: o9 :: some (zg_l z) :: rs) (zg_l z :: st) K N P V) : zg_G Γ Ξ μ R Ω bc bs pc (o0 :: o1 :: o2 :: o3 :: o4 :: o5 :: o6 :: o7 :: o8 :: o9 :: some (zg_l z) :: rs) st K N P V := by
  intro p e s m args below meth c H locs cells slots lz X Y
  exact lv_lload X.1 X.2.1 hd (Y.1.2.2 10 _ rfl) (k p e s m args below meth c H locs cells slots lz X Y)
theorem zg_al10 {a : Nat} (hd : decode μ.2.1 pc = .ok (.aload 10, 2))
    (k : zg_G Γ Ξ μ R Ω bc bs (pc + 2) (o0 :: o1 :: o2 :: o3 :: o4 :: o5 :: o6 :: o7 :: o8 :: o9 :: some (zg_r Γ a) :: rs) (zg_r Γ a :: st) K N P V) : zg_G Γ Ξ μ R Ω bc bs pc (o0 :: o1 :: o2 :: o3 :: o4 :: o5 :: o6 :: o7 :: o8 :: o9 :: some (zg_r Γ a) :: rs) st K N P V := by
  intro p e s m args below meth c H locs cells slots lz X Y
  exact lv_aload X.1 X.2.1 hd (Y.1.2.2 10 _ rfl) (k p e s m args below meth c H locs cells slots lz X Y)
theorem zg_is10 {z : Int} (hd : decode μ.2.1 pc = .ok (.istore 10, 2)) (hc : ∀ w, o9 = some w → w.category = 1) (hn : 10 < μ.2.2.1)
    (k : zg_G Γ Ξ μ R Ω bc bs (pc + 2) (o0 :: o1 :: o2 :: o3 :: o4 :: o5 :: o6 :: o7 :: o8 :: o9 :: some (zg_i z) :: rs) st K N P V) : zg_G Γ Ξ μ R Ω bc bs pc (o0 :: o1 :: o2 :: o3 :: o4 :: o5 :: o6 :: o7 :: o8 :: o9 :: o10 :: rs) (zg_i z :: st) K N P V := by
  intro p e s m args below meth c H locs cells slots lz X Y
  exact lv_istore X.1 X.2.1 hd (zg_lh_has Y.1) hn rfl (fun lz' h => k p e s m args below meth c H locs cells slots lz' X ⟨zg_lh_store (fun w _ h => hc w (Option.some.inj h)) h, Y.2⟩)
theorem zg_as10 {a : Nat} (hd : decode μ.2.1 pc = .ok (.astore 10, 2)) (hc : ∀ w, o9 = some w → w.category = 1) (hn : 10 < μ.2.2.1)
    (k : zg_G Γ Ξ μ R Ω bc bs (pc + 2) (o0 :: o1 :: o2 :: o3 :: o4 :: o5 :: o6 :: o7 :: o8 :: o9 :: some (zg_r Γ a) :: rs) st K N P V) : zg_G Γ Ξ μ R Ω bc bs pc (o0 :: o1 :: o2 :: o3 :: o4 :: o5 :: o6 :: o7 :: o8 :: o9 :: o10 :: rs) (zg_r Γ a :: st) K N P V := by
  intro p e s m args below meth c H locs cells slots lz X Y
  exact lv_astore X.1 X.2.1 hd (zg_lh_has Y.1) hn rfl (fun lz' h => k p e s m args below meth c H locs cells slots lz' X ⟨zg_lh_store (fun w _ h => hc w (Option.some.inj h)) h, Y.2⟩)
theorem zg_ls10 {z : Int} (hd : decode μ.2.1 pc = .ok (.lstore 10, 2)) (hc : ∀ w, o9 = some w → w.category = 1) (hn : 10 + 1 < μ.2.2.1)
    (k : zg_G Γ Ξ μ R Ω bc bs (pc + 2) (o0 :: o1 :: o2 :: o3 :: o4 :: o5 :: o6 :: o7 :: o8 :: o9 :: some (zg_l z) :: none :: rs) st K N P V) : zg_G Γ Ξ μ R Ω bc bs pc (o0 :: o1 :: o2 :: o3 :: o4 :: o5 :: o6 :: o7 :: o8 :: o9 :: o10 :: o11 :: rs) (zg_l z :: st) K N P V := by
  intro p e s m args below meth c H locs cells slots lz X Y
  exact lv_lstore X.1 X.2.1 hd (zg_lh_has Y.1) hn rfl (fun lz' h => k p e s m args below meth c H locs cells slots lz' X ⟨zg_lh_store2 (fun w _ h => hc w (Option.some.inj h)) h, Y.2⟩)
theorem zg_inc10 {z n : Int} (hd : decode μ.2.1 pc = .ok (.iinc 10 n, 3)) (hc : ∀ w, o9 = some w → w.category = 1) (hn : 10 < μ.2.2.1)
    (k : zg_G Γ Ξ μ R Ω bc bs (pc + 3) (o0 :: o1 :: o2 :: o3 :: o4 :: o5 :: o6 :: o7 :: o8 :: o9 :: some (zg_i (z + n)) :: rs) st K N P V) : zg_G Γ Ξ μ R Ω bc bs pc (o0 :: o1 :: o2 :: o3 :: o4 :: o5 :: o6 :: o7 :: o8 :: o9 :: some (zg_i z) :: rs) st K N P V := by
  intro p e s m args below meth c H locs cells slots lz X Y
  obtain ⟨kx, hkx⟩ := List.getElem?_of_mem (zg_pr_mem.mpr (show (o0 :: o1 :: o2 :: o3 :: o4 :: o5 :: o6 :: o7 :: o8 :: o9 :: some (zg_i z) :: rs)[10]? = some (some (zg_i z)) from rfl))
  exact lv_iinc (v := Int32.ofInt (z + n)) X.1 X.2.1 hd (zg_lh_has Y.1) hkx (Int32.ofInt_add z n).symm hn rfl (fun lz' h => k p e s m args below meth c H locs cells slots lz' X ⟨zg_lh_store (fun w _ h => hc w (Option.some.inj h)) h, Y.2⟩)
theorem zg_il11 {z : Int} (hd : decode μ.2.1 pc = .ok (.iload 11, 2))
    (k : zg_G Γ Ξ μ R Ω bc bs (pc + 2) (o0 :: o1 :: o2 :: o3 :: o4 :: o5 :: o6 :: o7 :: o8 :: o9 :: o10 :: some (zg_i z) :: rs) (zg_i z :: st) K N P V) : zg_G Γ Ξ μ R Ω bc bs pc (o0 :: o1 :: o2 :: o3 :: o4 :: o5 :: o6 :: o7 :: o8 :: o9 :: o10 :: some (zg_i z) :: rs) st K N P V := by
  intro p e s m args below meth c H locs cells slots lz X Y
  exact lv_iload X.1 X.2.1 hd (Y.1.2.2 11 _ rfl) (k p e s m args below meth c H locs cells slots lz X Y)
theorem zg_ll11 {z : Int} (hd : decode μ.2.1 pc = .ok (.lload 11, 2))
    (k : zg_G Γ Ξ μ R Ω bc bs (pc + 2) (o0 :: o1 :: o2 :: o3 :: o4 :: o5 :: o6 :: o7 :: o8 :: o9 :: o10 :: some (zg_l z) :: rs) (zg_l z :: st) K N P V) : zg_G Γ Ξ μ R Ω bc bs pc (o0 :: o1 :: o2 :: o3 :: o4 :: o5 :: o6 :: o7 :: o8 :: o9 :: o10 :: some (zg_l z) :: rs) st K N P V := by
  intro p e s m args below meth c H locs cells slots lz X Y
  exact lv_lload X.1 X.2.1 hd (Y.1.2.2 11 _ rfl) (k p e s m args below meth c H locs cells slots lz X Y)
theorem zg_al11 {a : Nat} (hd : decode μ.2.1 pc = .ok (.aload 11, 2))
    (k : zg_G Γ Ξ μ R Ω bc bs (pc + 2) (o0 :: o1 :: o2 :: o3 :: o4 :: o5 :: o6 :: o7 :: o8 :: o9 :: o10 :: some (zg_r Γ a) :: rs) (zg_r Γ a :: st) K N P V) : zg_G Γ Ξ μ R Ω bc bs pc (o0 :: o1 :: o2 :: o3 :: o4 :: o5 :: o6 :: o7 :: o8 :: o9 :: o10 :: some (zg_r Γ a) :: rs) st K N P V := by
  intro p e s m args below meth c H locs cells slots lz X Y
  exact lv_aload X.1 X.2.1 hd (Y.1.2.2 11 _ rfl) (k p e s m args below meth c H locs cells slots lz X Y)
theorem zg_is11 {z : Int} (hd : decode μ.2.1 pc = .ok (.istore 11, 2)) (hc : ∀ w, o10 = some w → w.category = 1) (hn : 11 < μ.2.2.1)
    (k : zg_G Γ Ξ μ R Ω bc bs (pc + 2) (o0 :: o1 :: o2 :: o3 :: o4 :: o5 :: o6 :: o7 :: o8 :: o9 :: o10 :: some (zg_i z) :: rs) st K N P V) : zg_G Γ Ξ μ R Ω bc bs pc (o0 :: o1 :: o2 :: o3 :: o4 :: o5 :: o6 :: o7 :: o8 :: o9 :: o10 :: o11 :: rs) (zg_i z :: st) K N P V := by
  intro p e s m args below meth c H locs cells slots lz X Y
  exact lv_istore X.1 X.2.1 hd (zg_lh_has Y.1) hn rfl (fun lz' h => k p e s m args below meth c H locs cells slots lz' X ⟨zg_lh_store (fun w _ h => hc w (Option.some.inj h)) h, Y.2⟩)
theorem zg_as11 {a : Nat} (hd : decode μ.2.1 pc = .ok (.astore 11, 2)) (hc : ∀ w, o10 = some w → w.category = 1) (hn : 11 < μ.2.2.1)
    (k : zg_G Γ Ξ μ R Ω bc bs (pc + 2) (o0 :: o1 :: o2 :: o3 :: o4 :: o5 :: o6 :: o7 :: o8 :: o9 :: o10 :: some (zg_r Γ a) :: rs) st K N P V) : zg_G Γ Ξ μ R Ω bc bs pc (o0 :: o1 :: o2 :: o3 :: o4 :: o5 :: o6 :: o7 :: o8 :: o9 :: o10 :: o11 :: rs) (zg_r Γ a :: st) K N P V := by
  intro p e s m args below meth c H locs cells slots lz X Y
  exact lv_astore X.1 X.2.1 hd (zg_lh_has Y.1) hn rfl (fun lz' h => k p e s m args below meth c H locs cells slots lz' X ⟨zg_lh_store (fun w _ h => hc w (Option.some.inj h)) h, Y.2⟩)
theorem zg_ls11 {z : Int} (hd : decode μ.2.1 pc = .ok (.lstore 11, 2)) (hc : ∀ w, o10 = some w → w.category = 1) (hn : 11 + 1 < μ.2.2.1)
    (k : zg_G Γ Ξ μ R Ω bc bs (pc + 2) (o0 :: o1 :: o2 :: o3 :: o4 :: o5 :: o6 :: o7 :: o8 :: o9 :: o10 :: some (zg_l z) :: none :: rs) st K N P V) : zg_G Γ Ξ μ R Ω bc bs pc (o0 :: o1 :: o2 :: o3 :: o4 :: o5 :: o6 :: o7 :: o8 :: o9 :: o10 :: o11 :: o12 :: rs) (zg_l z :: st) K N P V := by
  intro p e s m args below meth c H locs cells slots lz X Y
  exact lv_lstore X.1 X.2.1 hd (zg_lh_has Y.1) hn rfl (fun lz' h => k p e s m args below meth c H locs cells slots lz' X ⟨zg_lh_store2 (fun w _ h => hc w (Option.some.inj h)) h, Y.2⟩)
theorem zg_inc11 {z n : Int} (hd : decode μ.2.1 pc = .ok (.iinc 11 n, 3)) (hc : ∀ w, o10 = some w → w.category = 1) (hn : 11 < μ.2.2.1)
    (k : zg_G Γ Ξ μ R Ω bc bs (pc + 3) (o0 :: o1 :: o2 :: o3 :: o4 :: o5 :: o6 :: o7 :: o8 :: o9 :: o10 :: some (zg_i (z + n)) :: rs) st K N P V) : zg_G Γ Ξ μ R Ω bc bs pc (o0 :: o1 :: o2 :: o3 :: o4 :: o5 :: o6 :: o7 :: o8 :: o9 :: o10 :: some (zg_i z) :: rs) st K N P V := by
  intro p e s m args below meth c H locs cells slots lz X Y
  obtain ⟨kx, hkx⟩ := List.getElem?_of_mem (zg_pr_mem.mpr (show (o0 :: o1 :: o2 :: o3 :: o4 :: o5 :: o6 :: o7 :: o8 :: o9 :: o10 :: some (zg_i z) :: rs)[11]? = some (some (zg_i z)) from rfl))
  exact lv_iinc (v := Int32.ofInt (z + n)) X.1 X.2.1 hd (zg_lh_has Y.1) hkx (Int32.ofInt_add z n).symm hn rfl (fun lz' h => k p e s m args below meth c H locs cells slots lz' X ⟨zg_lh_store (fun w _ h => hc w (Option.some.inj h)) h, Y.2⟩)
theorem zg_il12 {z : Int} (hd : decode μ.2.1 pc = .ok (.iload 12, 2))
    (k : zg_G Γ Ξ μ R Ω bc bs (pc + 2) (o0 :: o1 :: o2 :: o3 :: o4 :: o5 :: o6 :: o7 :: o8 :: o9 :: o10 :: o11 :: some (zg_i z) :: rs) (zg_i z :: st) K N P V) : zg_G Γ Ξ μ R Ω bc bs pc (o0 :: o1 :: o2 :: o3 :: o4 :: o5 :: o6 :: o7 :: o8 :: o9 :: o10 :: o11 :: some (zg_i z) :: rs) st K N P V := by
  intro p e s m args below meth c H locs cells slots lz X Y
  exact lv_iload X.1 X.2.1 hd (Y.1.2.2 12 _ rfl) (k p e s m args below meth c H locs cells slots lz X Y)
theorem zg_ll12 {z : Int} (hd : decode μ.2.1 pc = .ok (.lload 12, 2))
    (k : zg_G Γ Ξ μ R Ω bc bs (pc + 2) (o0 :: o1 :: o2 :: o3 :: o4 :: o5 :: o6 :: o7 :: o8 :: o9 :: o10 :: o11 :: some (zg_l z) :: rs) (zg_l z :: st) K N P V) : zg_G Γ Ξ μ R Ω bc bs pc (o0 :: o1 :: o2 :: o3 :: o4 :: o5 :: o6 :: o7 :: o8 :: o9 :: o10 :: o11 :: some (zg_l z) :: rs) st K N P V := by
  intro p e s m args below meth c H locs cells slots lz X Y
  exact lv_lload X.1 X.2.1 hd (Y.1.2.2 12 _ rfl) (k p e s m args below meth c H locs cells slots lz X Y)
theorem zg_al12 {a : Nat} (hd : decode μ.2.1 pc = .ok (.aload 12, 2))
    (k : zg_G Γ Ξ μ R Ω bc bs (pc + 2) (o0 :: o1 :: o2 :: o3 :: o4 :: o5 :: o6 :: o7 :: o8 :: o9 :: o10 :: o11 :: some (zg_r Γ a) :: rs) (zg_r Γ a :: st) K N P V) : zg_G Γ Ξ μ R Ω bc bs pc (o0 :: o1 :: o2 :: o3 :: o4 :: o5 :: o6 :: o7 :: o8 :: o9 :: o10 :: o11 :: some (zg_r Γ a) :: rs) st K N P V := by
  intro p e s m args below meth c H locs cells slots lz X Y
  exact lv_aload X.1 X.2.1 hd (Y.1.2.2 12 _ rfl) (k p e s m args below meth c H locs cells slots lz X Y)
theorem zg_is12 {z : Int} (hd : decode μ.2.1 pc = .ok (.istore 12, 2)) (hc : ∀ w, o11 = some w → w.category = 1) (hn : 12 < μ.2.2.1)
    (k : zg_G Γ Ξ μ R Ω bc bs (pc + 2) (o0 :: o1 :: o2 :: o3 :: o4 :: o5 :: o6 :: o7 :: o8 :: o9 :: o10 :: o11 :: some (zg_i z) :: rs) st K N P V) : zg_G Γ Ξ μ R Ω bc bs pc (o0 :: o1 :: o2 :: o3 :: o4 :: o5 :: o6 :: o7 :: o8 :: o9 :: o10 :: o11 :: o12 :: rs) (zg_i z :: st) K N P V := by
  intro p e s m args below meth c H locs cells slots lz X Y
  exact lv_istore X.1 X.2.1 hd (zg_lh_has Y.1) hn rfl (fun lz' h => k p e s m args below meth c H locs cells slots lz' X ⟨zg_lh_store (fun w _ h => hc w (Option.some.inj h)) h, Y.2⟩)
theorem zg_as12 {a : Nat} (hd : decode μ.2.1 pc = .ok (.astore 12, 2)) (hc : ∀ w, o11 = some w → w.category = 1) (hn : 12 < μ.2.2.1)
    (k : zg_G Γ Ξ μ R Ω bc bs (pc + 2) (o0 :: o1 :: o2 :: o3 :: o4 :: o5 :: o6 :: o7 :: o8 :: o9 :: o10 :: o11 :: some (zg_r Γ a) :: rs) st K N P V) : zg_G Γ Ξ μ R Ω bc bs pc (o0 :: o1 :: o2 :: o3 :: o4 :: o5 :: o6 :: o7 :: o8 :: o9 :: o10 :: o11 :: o12 :: rs) (zg_r Γ a :: st) K N P V := by
  intro p e s m args below meth c H locs cells slots lz X Y
  exact lv_astore X.1 X.2.1 hd (zg_lh_has Y.1) hn rfl (fun lz' h => k p e s m args below meth c H locs cells slots lz' X ⟨zg_lh_store (fun w _ h => hc w (Option.some.inj h)) h, Y.2⟩)
theorem zg_ls12 {z : Int} (hd : decode μ.2.1 pc = .ok (.lstore 12, 2)) (hc : ∀ w, o11 = some w → w.category = 1) (hn : 12 + 1 < μ.2.2.1)
    (k : zg_G Γ Ξ μ R Ω bc bs (pc + 2) (o0 :: o1 :: o2 :: o3 :: o4 :: o5 :: o6 :: o7 :: o8 :: o9 :: o10 :: o11 :: some (zg_l z) :: none :: rs) st K N P V) : zg_G Γ Ξ μ R Ω bc bs pc (o0 :: o1 :: o2 :: o3 :: o4 :: o5 :: o6 :: o7 :: o8 :: o9 :: o10 :: o11 :: o12 :: o13 :: rs) (zg_l z :: st) K N P V := by
  intro p e s m args below meth c H locs cells slots lz X Y
  exact lv_lstore X.1 X.2.1 hd (zg_lh_has Y.1) hn rfl (fun lz' h => k p e s m args below meth c H locs cells slots lz' X ⟨zg_lh_store2 (fun w _ h => hc w (Option.some.inj h)) h, Y.2⟩)
theorem zg_inc12 {z n : Int} (hd : decode μ.2.1 pc = .ok (.iinc 12 n, 3)) (hc : ∀ w, o11 = some w → w.category = 1) (hn : 12 < μ.2.2.1)
    (k : zg_G Γ Ξ μ R Ω bc bs (pc + 3) (o0 :: o1 :: o2 :: o3 :: o4 :: o5 :: o6 :: o7 :: o8 :: o9 :: o10 :: o11 :: some (zg_i (z + n)) :: rs) st K N P V) : zg_G Γ Ξ μ R Ω bc bs pc (o0 :: o1 :: o2 :: o3 :: o4 :: o5 :: o6 :: o7 :: o8 :: o9 :: o10 :: o11 :: some (zg_i z) :: rs) st K N P V := by
  intro p e s m args below meth c H locs cells slots lz X Y
  obtain ⟨kx, hkx⟩ := List.getElem?_of_mem (zg_pr_mem.mpr (show (o0 :: o1 :: o2 :: o3 :: o4 :: o5 :: o6 :: o7 :: o8 :: o9 :: o10 :: o11 :: some (zg_i z) :: rs)[12]? = some (some (zg_i z)) from rfl))
  exact lv_iinc (v := Int32.ofInt (z + n)) X.1 X.2.1 hd (zg_lh_has Y.1) hkx (Int32.ofInt_add z n).symm hn rfl (fun lz' h => k p e s m args below meth c H locs cells slots lz' X ⟨zg_lh_store (fun w _ h => hc w (Option.some.inj h)) h, Y.2⟩)
theorem zg_il13 {z : Int} (hd : decode μ.2.1 pc = .ok (.iload 13, 2))
    (k : zg_G Γ Ξ μ R Ω bc bs (pc + 2) (o0 :: o1 :: o2 :: o3 :: o4 :: o5 :: o6 :: o7 :: o8 :: o9 :: o10 :: o11 :: o12 :: some (zg_i z) :: rs) (zg_i z :: st) K N P V) : zg_G Γ Ξ μ R Ω bc bs pc (o0 :: o1 :: o2 :: o3 :: o4 :: o5 :: o6 :: o7 :: o8 :: o9 :: o10 :: o11 :: o12 :: some (zg_i z) :: rs) st K N P V := by
  intro p e s m args below meth c H locs cells slots lz X Y
  exact lv_iload X.1 X.2.1 hd (Y.1.2.2 13 _ rfl) (k p e s m args below meth c H locs cells slots lz X Y)
theorem zg_ll13 {z : Int} (hd : decode μ.2.1 pc = .ok (.lload 13, 2))
    (k : zg_G Γ Ξ μ R Ω bc bs (pc + 2) (o0 :: o1 :: o2 :: o3 :: o4 :: o5 :: o6 :: o7 :: o8 :: o9 :: o10 :: o11 :: o12 :: some (zg_l z) :: rs) (zg_l z :: st) K N P V) : zg_G Γ Ξ μ R Ω bc bs pc (o0 :: o1 :: o2 :: o3 :: o4 :: o5 :: o6 :: o7 :: o8 :: o9 :: o10 :: o11 :: o12 :: some (zg_l z) :: rs) st K N P V := by
  intro p e s m args below meth c H locs cells slots lz X Y
  exact lv_lload X.1 X.2.1 hd (Y.1.2.2 13 _ rfl) (k p e s m args below meth c H locs cells slots lz X Y)
theorem zg_al13 {a : Nat} (hd : decode μ.2.1 pc = .ok (.aload 13, 2))
    (k : zg_G Γ Ξ μ R Ω bc bs (pc + 2) (o0 :: o1 :: o2 :: o3 :: o4 :: o5 :: o6 :: o7 :: o8 :: o9 :: o10 :: o11 :: o12 :: some (zg_r Γ a) :: rs) (zg_r Γ a :: st) K N P V) : zg_G Γ Ξ μ R Ω bc bs pc (o0 :: o1 :: o2 :: o3 :: o4 :: o5 :: o6 :: o7 :: o8 :: o9 :: o10 :: o11 :: o12 :: some (zg_r Γ a) :: rs) st K N P V := by
  intro p e s m args below meth c H locs cells slots lz X Y
  exact lv_aload X.1 X.2.1 hd (Y.1.2.2 13 _ rfl) (k p e s m args below meth c H locs cells slots lz X Y)
theorem zg_is13 {z : Int} (hd : decode μ.2.1 pc = .ok (.istore 13, 2)) (hc : ∀ w, o12 = some w → w.category = 1) (hn : 13 < μ.2.2.1)
    (k : zg_G Γ Ξ μ R Ω bc bs (pc + 2) (o0 :: o1 :: o2 :: o3 :: o4 :: o5 :: o6 :: o7 :: o8 :: o9 :: o10 :: o11 :: o12 :: some (zg_i z) :: rs) st K N P V) : zg_G Γ Ξ μ R Ω bc bs pc (o0 :: o1 :: o2 :: o3 :: o4 :: o5 :: o6 :: o7 :: o8 :: o9 :: o10 :: o11 :: o12 :: o13 :: rs) (zg_i z :: st) K N P V := by
  intro p e s m args below meth c H locs cells slots lz X Y
  exact lv_istore X.1 X.2.1 hd (zg_lh_has Y.1) hn rfl (fun lz' h => k p e s m args below meth c H locs cells slots lz' X ⟨zg_lh_store (fun w _ h => hc w (Option.some.inj h)) h, Y.2⟩)
theorem zg_as13 {a : Nat} (hd : decode μ.2.1 pc = .ok (.astore 13, 2)) (hc : ∀ w, o12 = some w → w.category = 1) (hn : 13 < μ.2.2.1)
    (k : zg_G Γ Ξ μ R Ω bc bs (pc + 2) (o0 :: o1 :: o2 :: o3 :: o4 :: o5 :: o6 :: o7 :: o8 :: o9 :: o10 :: o11 :: o12 :: some (zg_r Γ a) :: rs) st K N P V) : zg_G Γ Ξ μ R Ω bc bs pc (o0 :: o1 :: o2 :: o3 :: o4 :: o5 :: o6 :: o7 :: o8 :: o9 :: o10 :: o11 :: o12 :: o13 :: rs) (zg_r Γ a :: st) K N P V := by
  intro p e s m args below meth c H locs cells slots lz X Y
  exact lv_astore X.1 X.2.1 hd (zg_lh_has Y.1) hn rfl (fun lz' h => k p e s m args below meth c H locs cells slots lz' X ⟨zg_lh_store (fun w _ h => hc w (Option.some.inj h)) h, Y.2⟩)
theorem zg_ls13 {z : Int} (hd : decode μ.2.1 pc = .ok (.lstore 13, 2)) (hc : ∀ w, o12 = some w → w.category = 1) (hn : 13 + 1 < μ.2.2.1)
    (k : zg_G Γ Ξ μ R Ω bc bs (pc + 2) (o0 :: o1 :: o2 :: o3 :: o4 :: o5 :: o6 :: o7 :: o8 :: o9 :: o10 :: o11 :: o12 :: some (zg_l z) :: none :: rs) st K N P V) : zg_G Γ Ξ μ R Ω bc bs pc (o0 :: o1 :: o2 :: o3 :: o4 :: o5 :: o6 :: o7 :: o8 :: o9 :: o10 :: o11 :: o12 :: o13 :: o14 :: rs) (zg_l z :: st) K N P V := by
  intro p e s m args below meth c H locs cells slots lz X Y
  exact lv_lstore X.1 X.2.1 hd (zg_lh_has Y.1) hn rfl (fun lz' h => k p e s m args below meth c H locs cells slots lz' X ⟨zg_lh_store2 (fun w _ h => hc w (Option.some.inj h)) h, Y.2⟩)
theorem zg_inc13 {z n : Int} (hd : decode μ.2.1 pc = .ok (.iinc 13 n, 3)) (hc : ∀ w, o12 = some w → w.category = 1) (hn : 13 < μ.2.2.1)
    (k : zg_G Γ Ξ μ R Ω bc bs (pc + 3) (o0 :: o1 :: o2 :: o3 :: o4 :: o5 :: o6 :: o7 :: o8 :: o9 :: o10 :: o11 :: o12 :: some (zg_i (z + n)) :: rs) st K N P V) : zg_G Γ Ξ μ R Ω bc bs pc (o0 :: o1 :: o2 :: o3 :: o4 :: o5 :: o6 :: o7 :: o8 :: o9 :: o10 :: o11 :: o12 :: some (zg_i z) :: rs) st K N P V := by
  intro p e s m args below meth c H locs cells slots lz X Y
  obtain ⟨kx, hkx⟩ := List.getElem?_of_mem (zg_pr_mem.mpr (show (o0 :: o1 :: o2 :: o3 :: o4 :: o5 :: o6 :: o7 :: o8 :: o9 :: o10 :: o11 :: o12 :: some (zg_i z) :: rs)[13]? = some (some (zg_i z)) from rfl))
  exact lv_iinc (v := Int32.ofInt (z + n)) X.1 X.2.1 hd (zg_lh_has Y.1) hkx (Int32.ofInt_add z n).symm hn rfl (fun lz' h => k p e s m args below meth c H locs cells slots lz' X ⟨zg_lh_store (fun w _ h => hc w (Option.some.inj h)) h, Y.2⟩)
theorem zg_il14 {z : Int} (hd : decode μ.2.1 pc = .ok (.iload 14, 2))
    (k : zg_G Γ Ξ μ R Ω bc bs (pc + 2) (o0 :: o1 :: o2 :: o3 :: o4 :: o5 :: o6 :: o7 :: o8 :: o9 :: o10 :: o11 :: o12 :: o13 :: some (zg_i z) :: rs) (zg_i z :: st) K N P V) : zg_G Γ Ξ μ R Ω bc bs pc (o0 :: o1 :: o2 :: o3 :: o4 :: o5 :: o6 :: o7 :: o8 :: o9 :: o10 :: o11 :: o12 :: o13 :: some (zg_i z) :: rs) st K N P V := by
  intro p e s m args below meth c H locs cells slots lz X Y
  exact lv_iload X.1 X.2.1 hd (Y.1.2.2 14 _ rfl) (k p e s m args below meth c H locs cells slots lz X Y)
theorem zg_ll14 {z : Int} (hd : decode μ.2.1 pc = .ok (.lload 14, 2))
    (k : zg_G Γ Ξ μ R Ω bc bs (pc + 2) (o0 :: o1 :: o2 :: o3 :: o4 :: o5 :: o6 :: o7 :: o8 :: o9 :: o10 :: o11 :: o12 :: o13 :: some (zg_l z) :: rs) (zg_l z :: st) K N P V) : zg_G Γ Ξ μ R Ω bc bs pc (o0 :: o1 :: o2 :: o3 :: o4 :: o5 :: o6 :: o7 :: o8 :: o9 :: o10 :: o11 :: o12 :: o13 :: some (zg_l z) :: rs) st K N P V := by
  intro p e s m args below meth c H locs cells slots lz X Y
  exact lv_lload X.1 X.2.1 hd (Y.1.2.2 14 _ rfl) (k p e s m args below meth c H locs cells slots lz X Y)
theorem zg_al14 {a : Nat} (hd : decode μ.2.1 pc = .ok (.aload 14, 2))
    (k : zg_G Γ Ξ μ R Ω bc bs (pc + 2) (o0 :: o1 :: o2 :: o3 :: o4 :: o5 :: o6 :: o7 :: o8 :: o9 :: o10 :: o11 :: o12 :: o13 :: some (zg_r Γ a) :: rs) (zg_r Γ a :: st) K N P V) : zg_G Γ Ξ μ R Ω bc bs pc (o0 :: o1 :: o2 :: o3 :: o4 :: o5 :: o6 :: o7 :: o8 :: o9 :: o10 :: o11 :: o12 :: o13 :: some (zg_r Γ a) :: rs) st K N P V := by
  intro p e s m args below meth c H locs cells slots lz X Y
  exact lv_aload X.1 X.2.1 hd (Y.1.2.2 14 _ rfl) (k p e s m args below meth c H locs cells slots lz X Y)
theorem zg_is14 {z : Int} (hd : decode μ.2.1 pc = .ok (.istore 14, 2)) (hc : ∀ w, o13 = some w → w.category = 1) (hn : 14 < μ.2.2.1)
    (k : zg_G Γ Ξ μ R Ω bc bs (pc + 2) (o0 :: o1 :: o2 :: o3 :: o4 :: o5 :: o6 :: o7 :: o8 :: o9 :: o10 :: o11 :: o12 :: o13 :: some (zg_i z) :: rs) st K N P V) : zg_G Γ Ξ μ R Ω bc bs pc (o0 :: o1 :: o2 :: o3 :: o4 :: o5 :: o6 :: o7 :: o8 :: o9 :: o10 :: o11 :: o12 :: o13 :: o14 :: rs) (zg_i z :: st) K N P V := by
  intro p e s m args below meth c H locs cells slots lz X Y
  exact lv_istore X.1 X.2.1 hd (zg_lh_has Y.1) hn rfl (fun lz' h => k p e s m args below meth c H locs cells slots lz' X ⟨zg_lh_store (fun w _ h => hc w (Option.some.inj h)) h, Y.2⟩)
theorem zg_as14 {a : Nat} (hd : decode μ.2.1 pc = .ok (.astore 14, 2)) (hc : ∀ w, o13 = some w → w.category = 1) (hn : 14 < μ.2.2.1)
    (k : zg_G Γ Ξ μ R Ω bc bs (pc + 2) (o0 :: o1 :: o2 :: o3 :: o4 :: o5 :: o6 :: o7 :: o8 :: o9 :: o10 :: o11 :: o12 :: o13 :: some (zg_r Γ a) :: rs) st K N P V) : zg_G Γ Ξ μ R Ω bc bs pc (o0 :: o1 :: o2 :: o3 :: o4 :: o5 :: o6 :: o7 :: o8 :: o9 :: o10 :: o11 :: o12 :: o13 :: o14 :: rs) (zg_r Γ a :: st) K N P V := by
  intro p e s m args below meth c H locs cells slots lz X Y
  exact lv_astore X.1 X.2.1 hd (zg_lh_has Y.1) hn rfl (fun lz' h => k p e s m args below meth c H locs cells slots lz' X ⟨zg_lh_store (fun w _ h => hc w (Option.some.inj h)) h, Y.2⟩)
theorem zg_ls14 {z : Int} (hd : decode μ.2.1 pc = .ok (.lstore 14, 2)) (hc : ∀ w, o13 = some w → w.category = 1) (hn : 14 + 1 < μ.2.2.1)
    (k : zg_G Γ Ξ μ R Ω bc bs (pc + 2) (o0 :: o1 :: o2 :: o3 :: o4 :: o5 :: o6 :: o7 :: o8 :: o9 :: o10 :: o11 :: o12 :: o13 :: some (zg_l z) :: none :: rs) st K N P V) : zg_G Γ Ξ μ R Ω bc bs pc (o0 :: o1 :: o2 :: o3 :: o4 :: o5 :: o6 :: o7 :: o8 :: o9 :: o10 :: o11 :: o12 :: o13 :: o14 :: o15 :: rs) (zg_l z :: st) K N P V := by
  intro p e s m args below meth c H locs cells slots lz X Y
  exact lv_lstore X.1 X.2.1 hd (zg_lh_has Y.1) hn rfl (fun lz' h => k p e s m args below meth c H locs cells slots lz' X ⟨zg_lh_store2 (fun w _ h => hc w (Option.some.inj h)) h, Y.2⟩)
theorem zg_inc14 {z n : Int} (hd : decode μ.2.1 pc = .ok (.iinc 14 n, 3)) (hc : ∀ w, o13 = some w → w.category = 1) (hn : 14 < μ.2.2.1)
    (k : zg_G Γ Ξ μ R Ω bc bs (pc + 3) (o0 :: o1 :: o2 :: o3 :: o4 :: o5 :: o6 :: o7 :: o8 :: o9 :: o10 :: o11 :: o12 :: o13 :: some (zg_i (z + n)) :: rs) st K N P V) : zg_G Γ Ξ μ R Ω bc bs pc (o0 :: o1 :: o2 :: o3 :: o4 :: o5 :: o6 :: o7 :: o8 :: o9 :: o10 :: o11 :: o12 :: o13 :: some (zg_i z) :: rs) st K N P V := by
  intro p e s m args below meth c H locs cells slots lz X Y
  obtain ⟨kx, hkx⟩ := List.getElem?_of_mem (zg_pr_mem.mpr (show (o0 :: o1 :: o2 :: o3 :: o4 :: o5 :: o6 :: o7 :: o8 :: o9 :: o10 :: o11 :: o12 :: o13 :: some (zg_i z) :: rs)[14]? = some (some (zg_i z)) from rfl))
  exact lv_iinc (v := Int32.ofInt (z + n)) X.1 X.2.1 hd (zg_lh_has Y.1) hkx (Int32.ofInt_add z n).symm hn rfl (fun lz' h => k p e s m args below meth c H locs cells slots lz' X ⟨zg_lh_store (fun w _ h => hc w (Option.some.inj h)) h, Y.2⟩)
theorem zg_il15 {z : Int} (hd : decode μ.2.1 pc = .ok (.iload 15, 2))
    (k : zg_G Γ Ξ μ R Ω bc bs (pc + 2) (o0 :: o1 :: o2 :: o3 :: o4 :: o5 :: o6 :: o7 :: o8 :: o9 :: o10 :: o11 :: o12 :: o13 :: o14 :: some (zg_i z) :: rs) (zg_i z :: st) K N P V) : zg_G Γ Ξ μ R Ω bc bs pc (o0 :: o1 :: o2 :: o3 :: o4 :: o5 :: o6 :: o7 :: o8 :: o9 :: o10 :: o11 :: o12 :: o13 :: o14 :: some (zg_i z) :: rs) st K N P V := by
  intro p e s m args below meth c H locs cells slots lz X Y
  exact lv_iload X.1 X.2.1 hd (Y.1.2.2 15 _ rfl) (k p e s m args below meth c H locs cells slots lz X Y)
theorem zg_ll15 {z : Int} (hd : decode μ.2.1 pc = .ok (.lload 15, 2))
    (k : zg_G Γ Ξ μ R Ω bc bs (pc + 2) (o0 :: o1 :: o2 :: o3 :: o4 :: o5 :: o6 :: o7 :: o8 :: o9 :: o10 :: o11 :: o12 :: o13 :: o14 :: some (zg_l z) :: rs) (zg_l z :: st) K N P V) : zg_G Γ Ξ μ R Ω bc bs pc (o0 :: o1 :: o2 :: o3 :: o4 :: o5 :: o6 :: o7 :: o8 :: o9 :: o10 :: o11 :: o12 :: o13 :: o14 :: some (zg_l z) :: rs) st K N P V := by
  intro p e s m args below meth c H locs cells slots lz X Y
  exact lv_lload X.1 X.2.1 hd (Y.1.2.2 15 _ rfl) (k p e s m args below meth c H locs cells slots lz X Y)
theorem zg_al15 {a : Nat} (hd : decode μ.2.1 pc = .ok (.aload 15, 2))
    (k : zg_G Γ Ξ μ R Ω bc bs (pc + 2) (o0 :: o1 :: o2 :: o3 :: o4 :: o5 :: o6 :: o7 :: o8 :: o9 :: o10 :: o11 :: o12 :: o13 :: o14 :: some (zg_r Γ a) :: rs) (zg_r Γ a :: st) K N P V) : zg_G Γ Ξ μ R Ω bc bs pc (o0 :: o1 :: o2 :: o3 :: o4 :: o5 :: o6 :: o7 :: o8 :: o9 :: o10 :: o11 :: o12 :: o13 :: o14 :: some (zg_r Γ a) :: rs) st K N P V := by
  intro p e s m args below meth c H locs cells slots lz X Y
  exact lv_aload X.1 X.2.1 hd (Y.1.2.2 15 _ rfl) (k p e s m args below meth c H locs cells slots lz X Y)
theorem zg_is15 {z : Int} (hd : decode μ.2.1 pc = .ok (.istore 15, 2)) (hc : ∀ w, o14 = some w → w.category = 1) (hn : 15 < μ.2.2.1)
    (k : zg_G Γ Ξ μ R Ω bc bs (pc + 2) (o0 :: o1 :: o2 :: o3 :: o4 :: o5 :: o6 :: o7 :: o8 :: o9 :: o10 :: o11 :: o12 :: o13 :: o14 :: some (zg_i z) :: rs) st K N P V) : zg_G Γ Ξ μ R Ω bc bs pc (o0 :: o1 :: o2 :: o3 :: o4 :: o5 :: o6 :: o7 :: o8 :: o9 :: o10 :: o11 :: o12 :: o13 :: o14 :: o15 :: rs) (zg_i z :: st) K N P V := by
  intro p e s m args below meth c H locs cells slots lz X Y
  exact lv_istore X.1 X.2.1 hd (zg_lh_has Y.1) hn rfl (fun lz' h => k p e s m args below meth c H locs cells slots lz' X ⟨zg_lh_store (fun w _ h => hc w (Option.some.inj h)) h, Y.2⟩)
theorem zg_as15 {a : Nat} (hd : decode μ.2.1 pc = .ok (.astore 15, 2)) (hc : ∀ w, o14 = some w → w.category = 1) (hn : 15 < μ.2.2.1)
    (k : zg_G Γ Ξ μ R Ω bc bs (pc + 2) (o0 :: o1 :: o2 :: o3 :: o4 :: o5 :: o6 :: o7 :: o8 :: o9 :: o10 :: o11 :: o12 :: o13 :: o14 :: some (zg_r Γ a) :: rs) st K N P V) : zg_G Γ Ξ μ R Ω bc bs pc (o0 :: o1 :: o2 :: o3 :: o4 :: o5 :: o6 :: o7 :: o8 :: o9 :: o10 :: o11 :: o12 :: o13 :: o14 :: o15 :: rs) (zg_r Γ a :: st) K N P V := by
  intro p e s m args below meth c H locs cells slots lz X Y
  exact lv_astore X.1 X.2.1 hd (zg_lh_has Y.1) hn rfl (fun lz' h => k p e s m args below meth c H locs cells slots lz' X ⟨zg_lh_store (fun w _ h => hc w (Option.some.inj h)) h, Y.2⟩)
theorem zg_ls15 {z : Int} (hd : decode μ.2.1 pc = .ok (.lstore 15, 2)) (hc : ∀ w, o14 = some w → w.category = 1) (hn : 15 + 1 < μ.2.2.1)
    (k : zg_G Γ Ξ μ R Ω bc bs (pc + 2) (o0 :: o1 :: o2 :: o3 :: o4 :: o5 :: o6 :: o7 :: o8 :: o9 :: o10 :: o11 :: o12 :: o13 :: o14 :: some (zg_l z) :: none :: rs) st K N P V) : zg_G Γ Ξ μ R Ω bc bs pc (o0 :: o1 :: o2 :: o3 :: o4 :: o5 :: o6 :: o7 :: o8 :: o9 :: o10 :: o11 :: o12 :: o13 :: o14 :: o15 :: o16 :: rs) (zg_l z :: st) K N P V := by
  intro p e s m args below meth c H locs cells slots lz X Y
  exact lv_lstore X.1 X.2.1 hd (zg_lh_has Y.1) hn rfl (fun lz' h => k p e s m args below meth c H locs cells slots lz' X ⟨zg_lh_store2 (fun w _ h => hc w (Option.some.inj h)) h, Y.2⟩)
theorem zg_inc15 {z n : Int} (hd : decode μ.2.1 pc = .ok (.iinc 15 n, 3)) (hc : ∀ w, o14 = some w → w.category = 1) (hn : 15 < μ.2.2.1)
    (k : zg_G Γ Ξ μ R Ω bc bs (pc + 3) (o0 :: o1 :: o2 :: o3 :: o4 :: o5 :: o6 :: o7 :: o8 :: o9 :: o10 :: o11 :: o12 :: o13 :: o14 :: some (zg_i (z + n)) :: rs) st K N P V) : zg_G Γ Ξ μ R Ω bc bs pc (o0 :: o1 :: o2 :: o3 :: o4 :: o5 :: o6 :: o7 :: o8 :: o9 :: o10 :: o11 :: o12 :: o13 :: o14 :: some (zg_i z) :: rs) st K N P V := by
  intro p e s m args below meth c H locs cells slots lz X Y
  obtain ⟨kx, hkx⟩ := List.getElem?_of_mem (zg_pr_mem.mpr (show (o0 :: o1 :: o2 :: o3 :: o4 :: o5 :: o6 :: o7 :: o8 :: o9 :: o10 :: o11 :: o12 :: o13 :: o14 :: some (zg_i z) :: rs)[15]? = some (some (zg_i z)) from rfl))
  exact lv_iinc (v := Int32.ofInt (z + n)) X.1 X.2.1 hd (zg_lh_has Y.1) hkx (Int32.ofInt_add z n).symm hn rfl (fun lz' h => k p e s m args below meth c H locs cells slots lz' X ⟨zg_lh_store (fun w _ h => hc w (Option.some.inj h)) h, Y.2⟩)
end ZL
theorem zg_forget {ls' : List (Option Value)} (h : ∀ (i : Nat) (v : Value), ls'[i]? = some (some v) → ls[i]? = some (some v)) (k : zg_G Γ Ξ μ R Ω bc bs pc ls' st K N P V) : zg_G Γ Ξ μ R Ω bc bs pc ls st K N P V :=
  fun p e s m args below meth c H locs cells slots lz X Y => k p e s m args below meth c H locs cells slots lz X ⟨⟨Y.1.1, Y.1.2.1, fun i v q => Y.1.2.2 i v (h i v q)⟩, Y.2⟩
end ZG
end
section
/-! Own layer, 3: fields, arrays, calls, entry and end -/
def zn_F (own : String) (ix ci k : Nat) : Prop := ci < zn_nc ∧ k < zn_n ci ∧ (zn_T ci k).1 = zn_C ci ∧ Cond.fieldLink own ix (zn_C ci) (zn_T ci k).2.1 (zn_T ci k).2.2.1 ∈ zn_TS
theorem zg_d_put {Γ : zg_C} {K : zg_K} {N : Nat} {P P' : zg_P} {V V' : zg_V} {H H' : Heap} (h : zg_d Γ K N P V H) (hP : va_P Γ.2.2.1 zn_cl (zg_w Γ K N P' V') H') (z : H'.size = H.size) : zg_d Γ K N P' V' H' := ⟨hP, z.trans h.2⟩
theorem zg_T_warm {Γ : zg_C} {s U : State} (hW : s.WarmedH U.vm) (h : zg_T Γ s) : zg_T Γ U := ⟨va_K.moved hW.alike h.1, zn_B_warm hW h.2⟩
theorem zg_tys_at {Γ : zg_C} : (zg_tys Γ)[0]? = some (Γ.2.2.2 0, .int) ∧ (zg_tys Γ)[1]? = some (Γ.2.2.2 1, .long) ∧ (zg_tys Γ)[2]? = some (Γ.2.2.2 2, .boolean) := ⟨rfl, rfl, rfl⟩
theorem zg_tys_ra {Γ : zg_C} {t : Nat} {ty : FieldType} (h : zn_ra[t]? = some ty) : (zg_tys Γ)[t + 3]? = some (Γ.2.2.2 (t + 3), ty) := by
  have hl : t < zn_ra.length := (List.getElem?_eq_some_iff.mp h).1
  unfold zg_tys
  rw [List.getElem?_append_right (by simp)]
  simp [List.getElem?_map, List.getElem?_range hl, List.getD, h]
section ZM
variable {Γ : zg_C} {Ξ : State → Prop} {μ : zg_M} {R : Room} {Ω : List Frame → Array Value → State → State → Prop} {d mc ms bc bs pc N : Nat} {Q : zg_Q} {ls : List (Option Value)} {st : List Value} {K : zg_K} {P : zg_P} {V : zg_V}
theorem zg_get {ix ci k a : Nat} {v : Value} (hd : decode μ.2.1 pc = .ok (.getfield ix, 3)) (hf : zn_F μ.1.cls ix ci k) (ha : a < N) (hk : K a = (0, ci)) (hv : zg_fv Γ (zn_ty ci k) (V a k) (P a k) = v)
    (kk : zg_G Γ Ξ μ R Ω bc bs (pc + 3) ls (v :: st) K N P V) : zg_G Γ Ξ μ R Ω bc bs pc ls (zg_r Γ a :: st) K N P V := by
  intro p e s m args below meth c H locs cells slots lz X Y
  obtain ⟨h1, h2, h3, h4⟩ := hf
  exact va_get (T := zn_T ci) (N := zn_n ci) (C := zn_C ci) (Ts := zn_TS) X.1 X.2.1 X.2.2.2.2.2.1 (zn_uws ci h1) X.2.2.2.2.2.2.1 X.2.2.2.2.2.2.2.2.1.1 Y.2.1.1 a (by rw [zg_w_at _ _ _ _ ha, zg_e0 hk]) (zn_cl_at ci h1) k h2 (X.2.2.2.2.2.1 _ h4) (fun x hx => by rw [h3] at hx; exact hx) (v := v) (by rw [zg_fs_at Γ h2, hv]) hd (kk p e s m args below meth c H locs cells slots lz X Y)
theorem zg_geti {ix ci k a : Nat} (hd : decode μ.2.1 pc = .ok (.getfield ix, 3)) (hf : zn_F μ.1.cls ix ci k) (ha : a < N) (hk : K a = (0, ci)) (ht : zn_ty ci k = .int)
    (kk : zg_G Γ Ξ μ R Ω bc bs (pc + 3) ls (zg_i (V a k) :: st) K N P V) : zg_G Γ Ξ μ R Ω bc bs pc ls (zg_r Γ a :: st) K N P V := zg_get hd hf ha hk (by rw [ht]; rfl) kk
theorem zg_getz {ix ci k a : Nat} (hd : decode μ.2.1 pc = .ok (.getfield ix, 3)) (hf : zn_F μ.1.cls ix ci k) (ha : a < N) (hk : K a = (0, ci)) (ht : zn_ty ci k = .boolean)
    (kk : zg_G Γ Ξ μ R Ω bc bs (pc + 3) ls (zg_i (V a k) :: st) K N P V) : zg_G Γ Ξ μ R Ω bc bs pc ls (zg_r Γ a :: st) K N P V := zg_get hd hf ha hk (by rw [ht]; rfl) kk
theorem zg_getl {ix ci k a : Nat} (hd : decode μ.2.1 pc = .ok (.getfield ix, 3)) (hf : zn_F μ.1.cls ix ci k) (ha : a < N) (hk : K a = (0, ci)) (ht : zn_ty ci k = .long)
    (kk : zg_G Γ Ξ μ R Ω bc bs (pc + 3) ls (zg_l (V a k) :: st) K N P V) : zg_G Γ Ξ μ R Ω bc bs pc ls (zg_r Γ a :: st) K N P V := zg_get hd hf ha hk (by rw [ht]; rfl) kk
theorem zg_fv_r {Γ : zg_C} {ty : FieldType} (ht : ty.isReference = true) (z : Int) (r : Option Nat) : zg_fv Γ ty z r = zg_o Γ r := by
  cases ty <;> first | rfl | (simp [FieldType.isReference] at ht)
theorem zg_getr {ix ci k a q : Nat} (hd : decode μ.2.1 pc = .ok (.getfield ix, 3)) (hf : zn_F μ.1.cls ix ci k) (ha : a < N) (hk : K a = (0, ci)) (ht : (zn_ty ci k).isReference = true) (hq : P a k = some q)
    (kk : zg_G Γ Ξ μ R Ω bc bs (pc + 3) ls (zg_r Γ q :: st) K N P V) : zg_G Γ Ξ μ R Ω bc bs pc ls (zg_r Γ a :: st) K N P V := zg_get hd hf ha hk (by rw [zg_fv_r ht, hq]; rfl) kk
theorem zg_put {ix ci k a : Nat} {v : Value} {P' : zg_P} {V' : zg_V} (hd : decode μ.2.1 pc = .ok (.putfield ix, 3)) (hf : zn_F μ.1.cls ix ci k) (hfin : (zn_T ci k).2.2.2 = false) (ha : a < N) (hk : K a = (0, ci)) (hn : narrow (zn_ty ci k) v = v) (hfit : fits (zn_ty ci k) v = true)
    (hv : zg_fv Γ (zn_ty ci k) (V' a k) (P' a k) = v) (ho : ∀ x, x ≠ k → V' a x = V a x ∧ P' a x = P a x) (hq : ∀ x, x ≠ a → V' x = V x ∧ P' x = P x)
    (kk : zg_G Γ Ξ μ R Ω bc bs (pc + 3) ls st K N P' V') : zg_G Γ Ξ μ R Ω bc bs pc ls (v :: zg_r Γ a :: st) K N P V := by
  intro p e s m args below meth c H locs cells slots lz X Y
  obtain ⟨h1, h2, h3, h4⟩ := hf
  have hts := X.2.2.2.2.2.1
  have hin : ∀ w ∈ u_ws (zn_C ci) (zn_T ci) (zn_n ci), w ∈ zn_TS := zn_uws ci h1
  have hK := X.2.2.2.2.2.2.2.2.1.1
  have hP := Y.2.1.1
  have hD := zg_w_D Γ K N P V
  have hc := zn_cl_at ci h1
  have he : (zg_w Γ K N P V)[a]? = some (Γ.2.1 + a, .inr (ci, zg_fs Γ ci (V a) (P a))) := by rw [zg_w_at _ _ _ _ ha, zg_e0 hk]
  have hap := va_apart (own := μ.1.cls) hts hin (zn_ty ci) (zn_tyok ci h1) (zn_nm ci h1) hK hc
  obtain ⟨r, g1, cell, q1, q2, q3, q4⟩ := hP a _ he
  have hr : r = (zn_C ci, zn_T ci, zn_n ci) := Option.some.inj (g1.symm.trans hc)
  subst hr
  obtain ⟨hS, hfc, kC, hkC, hkind⟩ := hK.1 ci _ hc
  obtain ⟨cf, kf, fi, f, hi, hsl⟩ := hS k h2
  have hlay := hts _ (hin _ (u_in_lay h2))
  unfold u_lay at hlay
  rw [if_neg (by rw [hfin]; decide)] at hlay
  have hst := (u_facts hfc hkC (u_lays hts hin h2) hi).1
  have h6 := u_store hfc hkC hkind hlay hi (zn_tyok ci h1 k h2) hn hfit
  refine W.putK X.1 X.2.1 (f := f) ⟨X.2.2.2.2.2.2.1, hts _ h4, ⟨_, _, _, by rw [h3] at hi; exact hi⟩, hst⟩ (by rw [q2]; exact h6) q1 q3 (by rw [hsl]; exact k2_hasslot (q4 k h2)) rfl rfl hd fun H' e1 e2 e3 => ?_
  rw [hsl] at e1 ⊢
  have hP' := hP.set (e := .inr (ci, (zg_fs Γ ci (V a) (P a)).set k v)) (H1 := H') hD he ⟨_, hc, t_OB.to (V := updV (vp_V (zg_fs Γ ci (V a) (P a))) k v) ⟨_, e1, q2, q3, t_set q4 hap h2 v⟩ (fun j _ => vp_updV_set (by rw [zg_fs_len]; exact h2) v j)⟩ e3
  rw [zg_fs_set h2 hv ho, zg_w_set (K' := K) (P' := P') (V' := V') ha (by rw [zg_e0 hk]) (fun x hx => ⟨rfl, hq x hx⟩)] at hP'
  exact kk p e s m args below meth c H' _ cells slots lz X ⟨Y.1, zg_d_put Y.2.1 hP' e2, Y.2.2.1.put e2 e3 (hD.2 a _ he), Y.2.2.2⟩
theorem zg_u_in (V : zg_V) (a k : Nat) (x : Int) : zg_u V a k x a k = x := by simp [zg_u]
theorem zg_u_off (V : zg_V) (a k : Nat) (x : Int) {j : Nat} (h : j ≠ k) : zg_u V a k x a j = V a j := by simp [zg_u, h]
theorem zg_u_out (V : zg_V) (a k : Nat) (x : Int) {b : Nat} (h : b ≠ a) : zg_u V a k x b = V b := by funext j; simp [zg_u, h]
theorem zg_up_in (P : zg_P) (a k : Nat) (x : Option Nat) : zg_up P a k x a k = x := by simp [zg_up]
theorem zg_up_off (P : zg_P) (a k : Nat) (x : Option Nat) {j : Nat} (h : j ≠ k) : zg_up P a k x a j = P a j := by simp [zg_up, h]
theorem zg_up_out (P : zg_P) (a k : Nat) (x : Option Nat) {b : Nat} (h : b ≠ a) : zg_up P a k x b = P b := by funext j; simp [zg_up, h]
theorem zg_puti {ix ci k a : Nat} {x : Int} (hd : decode μ.2.1 pc = .ok (.putfield ix, 3)) (hf : zn_F μ.1.cls ix ci k) (hfin : (zn_T ci k).2.2.2 = false) (ha : a < N) (hk : K a = (0, ci)) (ht : zn_ty ci k = .int)
    (kk : zg_G Γ Ξ μ R Ω bc bs (pc + 3) ls st K N P (zg_u V a k x)) : zg_G Γ Ξ μ R Ω bc bs pc ls (zg_i x :: zg_r Γ a :: st) K N P V :=
  zg_put hd hf hfin ha hk (by rw [ht]; rfl) (by rw [ht]; rfl) (by rw [ht, zg_u_in]; rfl) (fun y hy => ⟨zg_u_off V a k x hy, rfl⟩) (fun y hy => ⟨zg_u_out V a k x hy, rfl⟩) kk
theorem zg_putz {ix ci k a : Nat} {x : Int} (hd : decode μ.2.1 pc = .ok (.putfield ix, 3)) (hf : zn_F μ.1.cls ix ci k) (hfin : (zn_T ci k).2.2.2 = false) (ha : a < N) (hk : K a = (0, ci)) (ht : zn_ty ci k = .boolean) (hx : x = 0 ∨ x = 1)
    (kk : zg_G Γ Ξ μ R Ω bc bs (pc + 3) ls st K N P (zg_u V a k x)) : zg_G Γ Ξ μ R Ω bc bs pc ls (zg_i x :: zg_r Γ a :: st) K N P V :=
  zg_put hd hf hfin ha hk (by rw [ht]; rcases hx with rfl | rfl <;> rfl) (by rw [ht]; rcases hx with rfl | rfl <;> rfl) (by rw [ht, zg_u_in]; rfl) (fun y hy => ⟨zg_u_off V a k x hy, rfl⟩) (fun y hy => ⟨zg_u_out V a k x hy, rfl⟩) kk
theorem zg_putl {ix ci k a : Nat} {x : Int} (hd : decode μ.2.1 pc = .ok (.putfield ix, 3)) (hf : zn_F μ.1.cls ix ci k) (hfin : (zn_T ci k).2.2.2 = false) (ha : a < N) (hk : K a = (0, ci)) (ht : zn_ty ci k = .long)
    (kk : zg_G Γ Ξ μ R Ω bc bs (pc + 3) ls st K N P (zg_u V a k x)) : zg_G Γ Ξ μ R Ω bc bs pc ls (zg_l x :: zg_r Γ a :: st) K N P V :=
  zg_put hd hf hfin ha hk (by rw [ht]; rfl) (by rw [ht]; rfl) (by rw [ht, zg_u_in]; rfl) (fun y hy => ⟨zg_u_off V a k x hy, rfl⟩) (fun y hy => ⟨zg_u_out V a k x hy, rfl⟩) kk
theorem zg_putr {ix ci k a q : Nat} (hd : decode μ.2.1 pc = .ok (.putfield ix, 3)) (hf : zn_F μ.1.cls ix ci k) (hfin : (zn_T ci k).2.2.2 = false) (ha : a < N) (hk : K a = (0, ci)) (ht : (zn_ty ci k).isReference = true)
    (kk : zg_G Γ Ξ μ R Ω bc bs (pc + 3) ls st K N (zg_up P a k (some q)) V) : zg_G Γ Ξ μ R Ω bc bs pc ls (zg_r Γ q :: zg_r Γ a :: st) K N P V :=
  zg_put hd hf hfin ha hk (by generalize zn_ty ci k = ty at ht; cases ty <;> first | rfl | (simp [FieldType.isReference] at ht)) (by generalize zn_ty ci k = ty at ht; cases ty <;> first | rfl | (simp [FieldType.isReference] at ht)) (by rw [zg_fv_r ht, zg_up_in]; rfl) (fun y hy => ⟨rfl, zg_up_off P a k _ hy⟩) (fun y hy => ⟨rfl, zg_up_out P a k _ hy⟩) kk
/-! ### arrays -/
theorem zg_iald {a n j : Nat} {z : Int} (hd : decode μ.2.1 pc = .ok (.iaload, 1)) (ha : a < N) (hk : K a = (1, n)) (hz : z = (j : Int)) (hj : j < n) (hn : n ≤ 2147483648)
    (kk : zg_G Γ Ξ μ R Ω bc bs (pc + 1) ls (zg_i (V a j) :: st) K N P V) : zg_G Γ Ξ μ R Ω bc bs pc ls (zg_i z :: zg_r Γ a :: st) K N P V := by
  intro p e s m args below meth c H locs cells slots lz X Y
  refine va_iald X.1 X.2.1 X.2.2.2.2.2.2.2.2.1.1 Y.2.1.1 a 0 (by rw [zg_w_at _ _ _ _ ha, zg_e1 hk]) zg_tys_at.1 (zg_in hz hj hn) hd ?_
  rw [zg_nat hz (by omega)]
  exact kk p e s m args below meth c H locs cells slots lz X Y
theorem zg_lald {a n j : Nat} {z : Int} (hd : decode μ.2.1 pc = .ok (.laload, 1)) (ha : a < N) (hk : K a = (2, n)) (hz : z = (j : Int)) (hj : j < n) (hn : n ≤ 2147483648)
    (kk : zg_G Γ Ξ μ R Ω bc bs (pc + 1) ls (zg_l (V a j) :: st) K N P V) : zg_G Γ Ξ μ R Ω bc bs pc ls (zg_i z :: zg_r Γ a :: st) K N P V := by
  intro p e s m args below meth c H locs cells slots lz X Y
  refine va_lald X.1 X.2.1 X.2.2.2.2.2.2.2.2.1.1 Y.2.1.1 a 1 (by rw [zg_w_at _ _ _ _ ha, zg_e2 hk]) zg_tys_at.2.1 (zg_in hz hj hn) hd ?_
  rw [zg_nat hz (by omega)]
  exact kk p e s m args below meth c H locs cells slots lz X Y
theorem zg_zald {a n j : Nat} {z : Int} (hd : decode μ.2.1 pc = .ok (.baload, 1)) (ha : a < N) (hk : K a = (3, n)) (hz : z = (j : Int)) (hj : j < n) (hn : n ≤ 2147483648)
    (kk : zg_G Γ Ξ μ R Ω bc bs (pc + 1) ls (zg_i (V a j) :: st) K N P V) : zg_G Γ Ξ μ R Ω bc bs pc ls (zg_i z :: zg_r Γ a :: st) K N P V := by
  intro p e s m args below meth c H locs cells slots lz X Y
  refine va_zald X.1 X.2.1 X.2.2.2.2.2.2.2.2.1.1 Y.2.1.1 a 2 (by rw [zg_w_at _ _ _ _ ha, zg_e3 hk]) zg_tys_at.2.2 (zg_in hz hj hn) hd ?_
  rw [zg_nat hz (by omega)]
  exact kk p e s m args below meth c H locs cells slots lz X Y
theorem zg_aald {a n j t q : Nat} {z : Int} {ty : FieldType} (hd : decode μ.2.1 pc = .ok (.aaload, 1)) (ha : a < N) (hk : K a = (t + 4, n)) (ht : zn_ra[t]? = some ty) (hty : ty.isReference = true) (hz : z = (j : Int)) (hj : j < n) (hn : n ≤ 2147483648) (hq : P a j = some q)
    (kk : zg_G Γ Ξ μ R Ω bc bs (pc + 1) ls (zg_r Γ q :: st) K N P V) : zg_G Γ Ξ μ R Ω bc bs pc ls (zg_i z :: zg_r Γ a :: st) K N P V := by
  intro p e s m args below meth c H locs cells slots lz X Y
  have he : (zg_w Γ K N P V)[a]? = some (Γ.2.1 + a, .inl (Γ.2.2.2 (t + 3), n, .inr (.inr (.inr (.inr (fun j => (P a j).map (fun a => Γ.2.1 + a))))))) := by rw [zg_w_at _ _ _ _ ha, zg_e4 hk]
  refine W.aald (v := zg_r Γ q) (ty := ty) X.1 X.2.1 (Y.2.1.1 a _ he) ((X.2.2.2.2.2.2.2.2.1.1.2 (t + 3) _ (zg_tys_ra ht)).1 n (fun j => va_rf ((P a j).map (fun a => Γ.2.1 + a)))) hty (fun q => by cases q) (by show ¬ (Int32.ofInt z < 0 ∨ (arrV _ _ _).slots.size ≤ _); rw [arrV_size]; exact zg_in hz hj hn) (by show (arrV _ _ _).slots[_]? = _; rw [zg_nat hz (by omega), arrV_read _ _ hj]; show some (va_rf ((P a j).map _)) = _; rw [hq]; rfl) rfl rfl hd (kk p e s m args below meth c H locs cells slots lz X Y)
theorem zg_iast {a n j : Nat} {z x : Int} (hd : decode μ.2.1 pc = .ok (.iastore, 1)) (ha : a < N) (hk : K a = (1, n)) (hz : z = (j : Int)) (hj : j < n) (hn : n ≤ 2147483648)
    (kk : zg_G Γ Ξ μ R Ω bc bs (pc + 1) ls st K N P (zg_u V a j x)) : zg_G Γ Ξ μ R Ω bc bs pc ls (zg_i x :: zg_i z :: zg_r Γ a :: st) K N P V := by
  intro p e s m args below meth c H locs cells slots lz X Y
  have he : (zg_w Γ K N P V)[a]? = some (Γ.2.1 + a, .inl (Γ.2.2.2 0, n, .inl (fun j => Int32.ofInt (V a j)))) := by rw [zg_w_at _ _ _ _ ha, zg_e1 hk]
  have hD := zg_w_D Γ K N P V
  refine W.iast X.1 X.2.1 (Y.2.1.1 a _ he) ((X.2.2.2.2.2.2.2.2.1.1.2 0 _ zg_tys_at.1).1 n (fun j => .int (Int32.ofInt (V a j)))) (fun q => by cases q) (by show ¬ (Int32.ofInt z < 0 ∨ (arrV _ _ _).slots.size ≤ _); rw [arrV_size]; exact zg_in hz hj hn) rfl rfl hd fun H1 e1 e2 e3 => ?_
  rw [zg_nat hz (by omega)] at e1 ⊢
  have hP' := Y.2.1.1.set hD he (e := .inl (Γ.2.2.2 0, n, .inl (fun i => Int32.ofInt (zg_u V a j x a i)))) (H1 := H1) (by
    show H1[Γ.2.1 + a]? = some (vp_cell _ _)
    rw [e1, vp_cell_i, vp_cell_i, arrV_store]
    congr 2
    funext i
    by_cases hi : i = j
    · subst hi; simp [updV, zg_u]
    · simp [updV, zg_u, hi]) e3
  rw [zg_w_set (K' := K) (P' := P) (V' := zg_u V a j x) ha (by rw [zg_e1 hk]) (fun y hy => ⟨rfl, zg_u_out V a j x hy, rfl⟩)] at hP'
  exact kk p e s m args below meth c H1 _ cells slots lz X ⟨Y.1, zg_d_put Y.2.1 hP' e2, Y.2.2.1.put e2 e3 (hD.2 a _ he), Y.2.2.2⟩
theorem zg_last {a n j : Nat} {z x : Int} (hd : decode μ.2.1 pc = .ok (.lastore, 1)) (ha : a < N) (hk : K a = (2, n)) (hz : z = (j : Int)) (hj : j < n) (hn : n ≤ 2147483648)
    (kk : zg_G Γ Ξ μ R Ω bc bs (pc + 1) ls st K N P (zg_u V a j x)) : zg_G Γ Ξ μ R Ω bc bs pc ls (zg_l x :: zg_i z :: zg_r Γ a :: st) K N P V := by
  intro p e s m args below meth c H locs cells slots lz X Y
  have he : (zg_w Γ K N P V)[a]? = some (Γ.2.1 + a, .inl (Γ.2.2.2 1, n, .inr (.inl (fun j => Int64.ofInt (V a j))))) := by rw [zg_w_at _ _ _ _ ha, zg_e2 hk]
  have hD := zg_w_D Γ K N P V
  refine W.last X.1 X.2.1 (Y.2.1.1 a _ he) ((X.2.2.2.2.2.2.2.2.1.1.2 1 _ zg_tys_at.2.1).1 n (fun j => .long (Int64.ofInt (V a j)))) (fun q => by cases q) (by show ¬ (Int32.ofInt z < 0 ∨ (arrV _ _ _).slots.size ≤ _); rw [arrV_size]; exact zg_in hz hj hn) rfl rfl hd fun H1 e1 e2 e3 => ?_
  rw [zg_nat hz (by omega)] at e1 ⊢
  have hP' := Y.2.1.1.set hD he (e := .inl (Γ.2.2.2 1, n, .inr (.inl (fun i => Int64.ofInt (zg_u V a j x a i))))) (H1 := H1) (by
    show H1[Γ.2.1 + a]? = some (vp_cell _ _)
    rw [e1, vp_cell_l, vp_cell_l, arrV_store]
    congr 2
    funext i
    by_cases hi : i = j
    · subst hi; simp [updV, zg_u]
    · simp [updV, zg_u, hi]) e3
  rw [zg_w_set (K' := K) (P' := P) (V' := zg_u V a j x) ha (by rw [zg_e2 hk]) (fun y hy => ⟨rfl, zg_u_out V a j x hy, rfl⟩)] at hP'
  exact kk p e s m args below meth c H1 _ cells slots lz X ⟨Y.1, zg_d_put Y.2.1 hP' e2, Y.2.2.1.put e2 e3 (hD.2 a _ he), Y.2.2.2⟩
theorem zg_zast {a n j : Nat} {z x : Int} (hd : decode μ.2.1 pc = .ok (.bastore, 1)) (ha : a < N) (hk : K a = (3, n)) (hz : z = (j : Int)) (hj : j < n) (hn : n ≤ 2147483648) (hx : x = 0 ∨ x = 1)
    (kk : zg_G Γ Ξ μ R Ω bc bs (pc + 1) ls st K N P (zg_u V a j x)) : zg_G Γ Ξ μ R Ω bc bs pc ls (zg_i x :: zg_i z :: zg_r Γ a :: st) K N P V := by
  intro p e s m args below meth c H locs cells slots lz X Y
  have he : (zg_w Γ K N P V)[a]? = some (Γ.2.1 + a, .inl (Γ.2.2.2 2, n, .inl (fun j => Int32.ofInt (V a j)))) := by rw [zg_w_at _ _ _ _ ha, zg_e3 hk]
  have hD := zg_w_D Γ K N P V
  have hnx : narrow .boolean (.int (Int32.ofInt x)) = .int (Int32.ofInt x) := by rcases hx with rfl | rfl <;> rfl
  refine W.zast X.1 X.2.1 (Y.2.1.1 a _ he) ((X.2.2.2.2.2.2.2.2.1.1.2 2 _ zg_tys_at.2.2).1 n (fun j => .int (Int32.ofInt (V a j)))) (fun q => by cases q) (by show ¬ (Int32.ofInt z < 0 ∨ (arrV _ _ _).slots.size ≤ _); rw [arrV_size]; exact zg_in hz hj hn) rfl rfl hd fun H1 e1 e2 e3 => ?_
  rw [zg_nat hz (by omega)] at e1 ⊢
  have hP' := Y.2.1.1.set hD he (e := .inl (Γ.2.2.2 2, n, .inl (fun i => Int32.ofInt (zg_u V a j x a i)))) (H1 := H1) (by
    show H1[Γ.2.1 + a]? = some (vp_cell _ _)
    rw [e1, vp_cell_i, vp_cell_i, arrV_store]
    congr 2
    funext i
    by_cases hi : i = j
    · subst hi; simp [updV, zg_u, hnx]
    · simp [updV, zg_u, hi]) e3
  rw [zg_w_set (K' := K) (P' := P) (V' := zg_u V a j x) ha (by rw [zg_e3 hk]) (fun y hy => ⟨rfl, zg_u_out V a j x hy, rfl⟩)] at hP'
  exact kk p e s m args below meth c H1 _ cells slots lz X ⟨Y.1, zg_d_put Y.2.1 hP' e2, Y.2.2.1.put e2 e3 (hD.2 a _ he), Y.2.2.2⟩
/-! ### entry and end -/
def zg_en : List Value → List (Option Value)
  | [] => []
  | v :: vs => if v.category = 2 then some v :: none :: zg_en vs else some v :: zg_en vs
theorem zg_en_mem (n : Nat) : ∀ (vs : List Value) (o i : Nat) (v : Value), (zg_en vs ++ List.replicate n none)[i]? = some (some v) → (o + i, v) ∈ lv_args o vs
  | [], o, i, v, h => by
    simp [zg_en, List.getElem?_replicate] at h
  | x :: vs, o, i, v, h => by
    unfold zg_en at h
    unfold lv_args
    by_cases hc : x.category = 2
    · rw [if_pos hc] at h
      rw [if_pos hc]
      match i, h with
      | 0, h => simp at h; subst h; exact List.mem_cons_self
      | 1, h => simp at h
      | i + 2, h =>
        have h' : (zg_en vs ++ List.replicate n none)[i]? = some (some v) := by simpa using h
        have := zg_en_mem n vs (o + 2) i v h'
        rw [show o + (i + 2) = o + 2 + i by omega]
        exact List.mem_cons_of_mem _ this
    · rw [if_neg hc] at h
      rw [if_neg hc]
      match i, h with
      | 0, h => simp at h; subst h; exact List.mem_cons_self
      | i + 1, h =>
        have h' : (zg_en vs ++ List.replicate n none)[i]? = some (some v) := by simpa using h
        have := zg_en_mem n vs (o + 1) i v h'
        rw [show o + (i + 1) = o + 1 + i by omega]
        exact List.mem_cons_of_mem _ this
theorem zg_enter {args : List Value} (n : Nat) (hy : plainName μ.1.cls = true) (hl : (lg_sl args).length ≤ μ.2.2.1) (he : zg_en args ++ List.replicate n none = ls)
    (k : zg_G Γ (fun _ => True) μ (zg_rm d mc ms) (zg_Ω Γ Q mc ms) mc ms 0 ls [] K N P V) : zg_S Γ μ d mc ms args K N P V Q := by
  refine Met.ofW (cc := μ.2.1) (maxL := μ.2.2.1) (ret := μ.2.2.2) hy rfl ?_
  intro p e s m args' below meth c s₁ B hml hv
  obtain ⟨rfl, hT, hw⟩ := hv
  have hl' := lv_entry args (n := μ.2.2.1) hl
  have hts := atoms_spec (ws := zg_ws μ) B.pre
  rw [lg_entry_eq]
  refine k p e s m args.toArray below meth c s.heap [] 0 0 _ ⟨B.exec, B.bytes, hml, B.returns, B.notSynchronized, fun w hw => hts w (List.mem_cons_of_mem _ hw), findClass_of_methodNamed B.named, (name_of_methodNamed B.named B.method).1, hT, by rw [hw.2]; omega, trivial⟩ ⟨⟨hl'.1, hl'.2.1, fun i v hi => ?_⟩, hw, va_S.rf, by show 0 + mc ≤ mc; omega, by show 0 + ms ≤ ms; omega⟩
  rw [← he] at hi
  have := zg_en_mem n args 0 i v hi
  rw [Nat.zero_add] at this
  exact hl'.2.2 (i, v) this
theorem zg_ireturn {z : Int} (hd : decode μ.2.1 pc = .ok (.ireturn, 1)) (hr : μ.2.2.2 = some .int) (hQ : Q (some (zg_i z)) K N P V) : zg_G Γ Ξ μ (zg_rm d mc ms) (zg_Ω Γ Q mc ms) bc bs pc ls [zg_i z] K N P V := by
  intro p e s m args below meth c H locs cells slots lz X Y
  refine W.widen (k := mc) (n := ms) (by have : cells + bc ≤ mc := Y.2.2.2.1; omega) (by have : slots + bs ≤ ms := Y.2.2.2.2; omega) ?_
  exact W.iret (v := Int32.ofInt z) X.1 X.2.1 (X.2.2.2.1.trans hr) (fun t ht hW => ⟨⟨some (zg_i z), K, N, P, V, rfl, hQ, by rw [ht]; exact Y.2.1⟩, Y.2.2.1.F ht⟩) Y.2.2.1.2.2 hd X.2.2.2.2.1
theorem zg_zreturn {z : Int} (hd : decode μ.2.1 pc = .ok (.ireturn, 1)) (hr : μ.2.2.2 = some .boolean) (hz : z = 0 ∨ z = 1) (hQ : Q (some (zg_i z)) K N P V) : zg_G Γ Ξ μ (zg_rm d mc ms) (zg_Ω Γ Q mc ms) bc bs pc ls [zg_i z] K N P V := by
  intro p e s m args below meth c H locs cells slots lz X Y
  refine W.widen (k := mc) (n := ms) (by have : cells + bc ≤ mc := Y.2.2.2.1; omega) (by have : slots + bs ≤ ms := Y.2.2.2.2; omega) ?_
  exact W.zret (v := Int32.ofInt z) (ty := .boolean) X.1 X.2.1 (X.2.2.2.1.trans hr) (by rcases hz with rfl | rfl <;> rfl) (fun t ht hW => ⟨⟨some (zg_i z), K, N, P, V, rfl, hQ, by rw [ht]; exact Y.2.1⟩, Y.2.2.1.F ht⟩) Y.2.2.1.2.2 hd X.2.2.2.2.1
theorem zg_lreturn {z : Int} (hd : decode μ.2.1 pc = .ok (.lreturn, 1)) (hr : μ.2.2.2 = some .long) (hQ : Q (some (zg_l z)) K N P V) : zg_G Γ Ξ μ (zg_rm d mc ms) (zg_Ω Γ Q mc ms) bc bs pc ls [zg_l z] K N P V := by
  intro p e s m args below meth c H locs cells slots lz X Y
  refine W.widen (k := mc) (n := ms) (by have : cells + bc ≤ mc := Y.2.2.2.1; omega) (by have : slots + bs ≤ ms := Y.2.2.2.2; omega) ?_
  exact W.lret (v := Int64.ofInt z) X.1 X.2.1 (X.2.2.2.1.trans hr) (fun t ht hW => ⟨⟨some (zg_l z), K, N, P, V, rfl, hQ, by rw [ht]; exact Y.2.1⟩, Y.2.2.1.F ht⟩) Y.2.2.1.2.2 hd X.2.2.2.2.1
theorem zg_return (hd : decode μ.2.1 pc = .ok (.return_, 1)) (hr : μ.2.2.2 = none) (hQ : Q (none) K N P V) : zg_G Γ Ξ μ (zg_rm d mc ms) (zg_Ω Γ Q mc ms) bc bs pc ls [] K N P V := by
  intro p e s m args below meth c H locs cells slots lz X Y
  refine W.widen (k := mc) (n := ms) (by have : cells + bc ≤ mc := Y.2.2.2.1; omega) (by have : slots + bs ≤ ms := Y.2.2.2.2; omega) ?_
  exact W.vret X.1 X.2.1 (X.2.2.2.1.trans hr) (fun t ht hW => ⟨⟨none, K, N, P, V, rfl, hQ, by rw [ht]; exact Y.2.1⟩, Y.2.2.1.F ht⟩) Y.2.2.1.2.2 hd X.2.2.2.2.1
/-! ### calls -/
def zn_M (μ' : zg_M) (n : Nat) : Prop := Cond.initialized μ'.1.cls ∈ zn_TS ∧ Cond.code μ'.1 μ'.2.1 μ'.2.2.1 μ'.2.2.2 ∈ zn_TS ∧ (μ'.1.cls ≠ "java/lang/invoke/MethodHandle" ∧ μ'.1.cls ≠ "java/lang/invoke/VarHandle") ∧ (parseMethodDescriptor μ'.1.desc).map (fun d => d.parameters.length) = some n ∧ μ'.2.2.1 ≤ 15
theorem zg_words {args : Array Value} {s : State} {μ' : zg_M} (hts : ∀ w ∈ zn_TS, w.before args s = true) (hc : Cond.code μ'.1 μ'.2.1 μ'.2.2.1 μ'.2.2.2 ∈ zn_TS) : ∀ w ∈ zg_ws μ', ∀ (a' : Array Value) (U : State), s.WarmedH U.vm → w.before a' U = true := by
  intro w hw a' U hW
  have h1 : w ∈ zn_TS := by
    rcases List.mem_cons.mp hw with rfl | h
    · exact hc
    · exact h
  exact word_at hW (zn_good w h1) (hts w h1)
theorem zg_callB {args : Array Value} {s : State} {μ' : zg_M} {ix n d' mc' ms' : Nat} (hts : ∀ w ∈ zn_TS, w.before args s = true) (hm : zn_M μ' n) (hl : Cond.methodLink μ.1.cls ix μ'.1 ∈ zn_TS) (hfr : d' + 1 ≤ R.frames) (hlo : 34 + 36 * d' ≤ R.locals) :
    CallB R s args μ.1.cls ix μ'.1 μ'.2.1 μ'.2.2.1 μ'.2.2.2 (zg_ws μ') (zg_rm d' mc' ms') mc' ms' n := by
  obtain ⟨h1, h2, h3, h4, h5⟩ := hm
  refine ⟨rfl, rfl, hfr, ?_, zg_words hts h2, List.mem_cons_self, hts _ h2, hts _ h1, h3, fun sig h => ?_, hts _ hl⟩
  · show 8 + (μ'.2.2.1 + 11) + 36 * d' ≤ R.locals
    omega
  · rw [h] at h4
    exact (Option.some.inj h4).symm
theorem zg_blind {args : List Value} : FrameBlind (va_Pc args (fun U => zg_T Γ U ∧ zg_d Γ K N P V U.heap)) := fun a U g mk q => ⟨q.1, ⟨va_K.moved (u := U) (U := U.calling g mk a) (Vm.Alike.refl U.vm) q.2.1.1, zn_B_same (u := U) (U := U.calling g mk a) rfl q.2.1.2⟩, q.2.2⟩
theorem zg_call_core {p : Program} {e : Env} {s : State} {m : MethodId} {args : Array Value} {below : List Frame} {meth : Method} {c : Code} {H : Heap} {locs : List Loc} {cells slots mc' ms' : Nat} {lz : Array Slot} {st0 : List Value} {Q' : zg_Q} {aa : Array Value}
    (hr : va_Run p Γ.1 e R s m args below meth c H locs cells slots mc' ms' (F0 m pc lz st0) st (zg_F Γ Q' aa) (zg_A Γ)) (X : zg_X Γ Ξ μ p s m args meth c) (Y : zg_Y Γ μ.2.2.1 R bc bs ls K N P V s H locs cells slots lz) (hbc : mc' ≤ bc) (hbs : ms' ≤ bs)
    (kk : ∀ (r : Option Value) (K' : zg_K) (N' : Nat) (P' : zg_P) (V' : zg_V), Q' r K' N' P' V' → zg_G Γ Ξ μ R Ω (bc - mc') (bs - ms') (pc + 3) ls (r.toList ++ st) K' N' P' V') :
    W p Γ.1 e R s m args below meth c H locs cells slots (Ω below args s) (F0 m pc lz st0) := by
  intro T hT Xs
  obtain ⟨v, st₀, t, T', L, h0, X', hL, e1, e2, ⟨⟨r, K', N', P', V', hv, hq, hd⟩, hz, hk⟩, stp⟩ := hr T hT Xs
  cases hv
  rw [h0] at hz hk
  obtain ⟨hlh, hd0, hS, hc1, hc2⟩ := Y
  obtain ⟨t2, a1, b1⟩ := kk v K' N' P' V' hq p e s m args below meth c T'.heap (locs ++ L) (cells + mc') (slots + ms') lz X ⟨hlh, by rw [e1]; exact hd, ⟨Nat.le_trans hS.1 (by rw [e1]; exact hz), fun q h1 h2 => by rw [e1, hk q (Nat.lt_of_lt_of_le h1 hS.1) h2]; exact hS.2.1 q h1 h2, fun q hq => by
      rcases List.mem_append.mp hq with h | h
      · exact hS.2.2 q h
      · exact hL q h⟩, by omega, by omega⟩ T' rfl X'
  exact ⟨t2, stp t2 a1, b1⟩
theorem zg_invV {μ' : zg_M} {ix n d' mc' ms' a ci : Nat} {As stk : List Value} {Q' : zg_Q} (hd : decode μ.2.1 pc = .ok (.invokevirtual ix, 3)) (hm : zn_M μ' n) (hl : Cond.methodLink μ.1.cls ix μ'.1 ∈ zn_TS) (hi : Cond.instanceMethod μ'.1 ∈ zn_TS) (hs : Cond.selects μ'.1.cls μ'.1 μ'.1 ∈ zn_TS)
    (hS : zg_S Γ μ' d' mc' ms' (zg_r Γ a :: As) K N P V Q') (hfr : d' + 1 ≤ R.frames) (hlo : 34 + 36 * d' ≤ R.locals) (hbc : mc' ≤ bc) (hbs : ms' ≤ bs) (hn : As.length = n) (ha : a < N) (hk : K a = (0, ci)) (hci : ci < zn_nc) (hC : zn_C ci = μ'.1.cls) (hw : (st.map fun v => v.category).sum ≤ 8) (hstk : stk = As.reverse ++ zg_r Γ a :: st)
    (kk : ∀ (r : Option Value) (K' : zg_K) (N' : Nat) (P' : zg_P) (V' : zg_V), Q' r K' N' P' V' → zg_G Γ Ξ μ R Ω (bc - mc') (bs - ms') (pc + 3) ls (r.toList ++ st) K' N' P' V') : zg_G Γ Ξ μ R Ω bc bs pc ls stk K N P V := by
  intro p e s m args below meth c H locs cells slots lz X Y
  have hts := X.2.2.2.2.2.1
  have h1 := Y.2.2.2.1
  have h2 := Y.2.2.2.2
  have hrv := va_recv X.2.2.2.2.2.2.2.2.1.1 Y.2.1.1 (zn_cl_at ci hci) (show (zg_w Γ K N P V)[a]? = some (Γ.2.1 + a, .inr (ci, zg_fs Γ ci (V a) (P a))) by rw [zg_w_at _ _ _ _ ha, zg_e0 hk])
  exact zg_call_core (va_runV (C := μ'.1.cls) (b := Γ.2.1 + a) (As := As) (rest := st) ⟨X.1, X.2.1, X.2.2.1, X.2.2.2.2.2.2.1, hts⟩ hS ⟨zg_callB hts hm hl hfr hlo, hts _ hi, hts _ hs⟩ ⟨zg_blind, by rw [← hC]; exact hrv, fun U hU hW => ⟨rfl, zg_T_warm hW X.2.2.2.2.2.2.2.2.1, by rw [hU]; exact Y.2.1⟩⟩ rfl hn Y.1.1 hstk (lv_room hw) hd ⟨by omega, by omega⟩) X Y hbc hbs kk
theorem zg_invS {μ' : zg_M} {ix n d' mc' ms' : Nat} {As stk : List Value} {Q' : zg_Q} (hd : decode μ.2.1 pc = .ok (.invokestatic ix, 3)) (hm : zn_M μ' n) (hl : Cond.methodLink μ.1.cls ix μ'.1 ∈ zn_TS) (hi : Cond.static μ'.1 ∈ zn_TS)
    (hS : zg_S Γ μ' d' mc' ms' As K N P V Q') (hfr : d' + 1 ≤ R.frames) (hlo : 34 + 36 * d' ≤ R.locals) (hbc : mc' ≤ bc) (hbs : ms' ≤ bs) (hn : As.length = n) (hw : (st.map fun v => v.category).sum ≤ 8) (hstk : stk = As.reverse ++ st)
    (kk : ∀ (r : Option Value) (K' : zg_K) (N' : Nat) (P' : zg_P) (V' : zg_V), Q' r K' N' P' V' → zg_G Γ Ξ μ R Ω (bc - mc') (bs - ms') (pc + 3) ls (r.toList ++ st) K' N' P' V') : zg_G Γ Ξ μ R Ω bc bs pc ls stk K N P V := by
  intro p e s m args below meth c H locs cells slots lz X Y
  have hts := X.2.2.2.2.2.1
  have h1 := Y.2.2.2.1
  have h2 := Y.2.2.2.2
  exact zg_call_core (va_runS (As := As) (rest := st) ⟨X.1, X.2.1, X.2.2.1, X.2.2.2.2.2.2.1, hts⟩ hS ⟨zg_callB hts hm hl hfr hlo, hts _ hi⟩ ⟨zg_blind, fun U hU hW => ⟨rfl, zg_T_warm hW X.2.2.2.2.2.2.2.2.1, by rw [hU]; exact Y.2.1⟩⟩ rfl hn Y.1.1 hstk (lv_room hw) hd ⟨by omega, by omega⟩) X Y hbc hbs kk
/-- a method whose picture may be weakened -/
theorem zg_S.mono {Q' : zg_Q} {args : List Value} (h : zg_S Γ μ d mc ms args K N P V Q) (hq : ∀ r K' N' P' V', Q r K' N' P' V' → Q' r K' N' P' V') : zg_S Γ μ d mc ms args K N P V Q' := by
  unfold zg_S Met at h ⊢
  refine Jvm.Free.MetFree.mono h (fun _ _ q => q) (fun _ _ _ _ _ q => q) ?_
  rintro a u o t - ⟨⟨⟨r, K', N', P', V', hv, hq', hd⟩, hf⟩, hL⟩
  exact ⟨⟨⟨r, K', N', P', V', hv, hq _ _ _ _ _ hq', hd⟩, hf⟩, hL⟩
end ZM
end
section
def zm_Object_init : zg_M := (⟨"java/lang/Object", "<init>", "()V"⟩, object_method_1_code, 1, none)
theorem zd_Object_init_0 : decode object_method_1_code 0 = .ok (.return_, 1) := by decide +kernel
def zm_Table_init : zg_M := (⟨"SurrogateTree$Table", "<init>", "()V"⟩, prog_11_method_1_code, 1, none)
theorem zd_Table_init_0 : decode prog_11_method_1_code 0 = .ok (.aload_n 0, 1) := by decide +kernel
theorem zd_Table_init_1 : decode prog_11_method_1_code 1 = .ok (.invokespecial 3, 3) := by decide +kernel
theorem zd_Table_init_4 : decode prog_11_method_1_code 4 = .ok (.aload_n 0, 1) := by decide +kernel
theorem zd_Table_init_5 : decode prog_11_method_1_code 5 = .ok (.bipush 16, 2) := by decide +kernel
theorem zd_Table_init_7 : decode prog_11_method_1_code 7 = .ok (.iconst 3, 1) := by decide +kernel
theorem zd_Table_init_8 : decode prog_11_method_1_code 8 = .ok (.multianewarray 9 2, 4) := by decide +kernel
theorem zd_Table_init_12 : decode prog_11_method_1_code 12 = .ok (.putfield 11, 3) := by decide +kernel
theorem zd_Table_init_15 : decode prog_11_method_1_code 15 = .ok (.aload_n 0, 1) := by decide +kernel
theorem zd_Table_init_16 : decode prog_11_method_1_code 16 = .ok (.bipush 16, 2) := by decide +kernel
theorem zd_Table_init_18 : decode prog_11_method_1_code 18 = .ok (.newarray .int, 2) := by decide +kernel
theorem zd_Table_init_20 : decode prog_11_method_1_code 20 = .ok (.putfield 16, 3) := by decide +kernel
theorem zd_Table_init_23 : decode prog_11_method_1_code 23 = .ok (.aload_n 0, 1) := by decide +kernel
theorem zd_Table_init_24 : decode prog_11_method_1_code 24 = .ok (.bipush 16, 2) := by decide +kernel
theorem zd_Table_init_26 : decode prog_11_method_1_code 26 = .ok (.newarray .int, 2) := by decide +kernel
theorem zd_Table_init_28 : decode prog_11_method_1_code 28 = .ok (.putfield 20, 3) := by decide +kernel
theorem zd_Table_init_31 : decode prog_11_method_1_code 31 = .ok (.aload_n 0, 1) := by decide +kernel
theorem zd_Table_init_32 : decode prog_11_method_1_code 32 = .ok (.iconst 0, 1) := by decide +kernel
theorem zd_Table_init_33 : decode prog_11_method_1_code 33 = .ok (.putfield 23, 3) := by decide +kernel
theorem zd_Table_init_36 : decode prog_11_method_1_code 36 = .ok (.return_, 1) := by decide +kernel
def zm_Ballot_init : zg_M := (⟨"SurrogateTree$Ballot", "<init>", "()V"⟩, prog_2_method_1_code, 1, none)
theorem zd_Ballot_init_0 : decode prog_2_method_1_code 0 = .ok (.aload_n 0, 1) := by decide +kernel
theorem zd_Ballot_init_1 : decode prog_2_method_1_code 1 = .ok (.invokespecial 3, 3) := by decide +kernel
theorem zd_Ballot_init_4 : decode prog_2_method_1_code 4 = .ok (.aload_n 0, 1) := by decide +kernel
theorem zd_Ballot_init_5 : decode prog_2_method_1_code 5 = .ok (.bipush 16, 2) := by decide +kernel
theorem zd_Ballot_init_7 : decode prog_2_method_1_code 7 = .ok (.iconst 4, 1) := by decide +kernel
theorem zd_Ballot_init_8 : decode prog_2_method_1_code 8 = .ok (.multianewarray 9 2, 4) := by decide +kernel
theorem zd_Ballot_init_12 : decode prog_2_method_1_code 12 = .ok (.putfield 11, 3) := by decide +kernel
theorem zd_Ballot_init_15 : decode prog_2_method_1_code 15 = .ok (.return_, 1) := by decide +kernel
def zm_Node_init : zg_M := (⟨"SurrogateTree$Node", "<init>", "()V"⟩, prog_6_method_1_code, 2, none)
theorem zd_Node_init_0 : decode prog_6_method_1_code 0 = .ok (.aload_n 0, 1) := by decide +kernel
theorem zd_Node_init_1 : decode prog_6_method_1_code 1 = .ok (.invokespecial 3, 3) := by decide +kernel
theorem zd_Node_init_4 : decode prog_6_method_1_code 4 = .ok (.aload_n 0, 1) := by decide +kernel
theorem zd_Node_init_5 : decode prog_6_method_1_code 5 = .ok (.new 9, 3) := by decide +kernel
theorem zd_Node_init_8 : decode prog_6_method_1_code 8 = .ok (.dup, 1) := by decide +kernel
theorem zd_Node_init_9 : decode prog_6_method_1_code 9 = .ok (.invokespecial 11, 3) := by decide +kernel
theorem zd_Node_init_12 : decode prog_6_method_1_code 12 = .ok (.putfield 12, 3) := by decide +kernel
theorem zd_Node_init_15 : decode prog_6_method_1_code 15 = .ok (.aload_n 0, 1) := by decide +kernel
theorem zd_Node_init_16 : decode prog_6_method_1_code 16 = .ok (.iconst 2, 1) := by decide +kernel
theorem zd_Node_init_17 : decode prog_6_method_1_code 17 = .ok (.anewarray 18, 3) := by decide +kernel
theorem zd_Node_init_20 : decode prog_6_method_1_code 20 = .ok (.putfield 20, 3) := by decide +kernel
theorem zd_Node_init_23 : decode prog_6_method_1_code 23 = .ok (.iconst 0, 1) := by decide +kernel
theorem zd_Node_init_24 : decode prog_6_method_1_code 24 = .ok (.istore_n 1, 1) := by decide +kernel
theorem zd_Node_init_25 : decode prog_6_method_1_code 25 = .ok (.iload_n 1, 1) := by decide +kernel
theorem zd_Node_init_26 : decode prog_6_method_1_code 26 = .ok (.iconst 2, 1) := by decide +kernel
theorem zd_Node_init_27 : decode prog_6_method_1_code 27 = .ok (.if_icmp .ge 22, 3) := by decide +kernel
theorem zd_Node_init_30 : decode prog_6_method_1_code 30 = .ok (.aload_n 0, 1) := by decide +kernel
theorem zd_Node_init_31 : decode prog_6_method_1_code 31 = .ok (.getfield 20, 3) := by decide +kernel
theorem zd_Node_init_34 : decode prog_6_method_1_code 34 = .ok (.iload_n 1, 1) := by decide +kernel
theorem zd_Node_init_35 : decode prog_6_method_1_code 35 = .ok (.new 18, 3) := by decide +kernel
theorem zd_Node_init_38 : decode prog_6_method_1_code 38 = .ok (.dup, 1) := by decide +kernel
theorem zd_Node_init_39 : decode prog_6_method_1_code 39 = .ok (.invokespecial 24, 3) := by decide +kernel
theorem zd_Node_init_42 : decode prog_6_method_1_code 42 = .ok (.aastore, 1) := by decide +kernel
theorem zd_Node_init_43 : decode prog_6_method_1_code 43 = .ok (.iinc 1 1, 3) := by decide +kernel
theorem zd_Node_init_46 : decode prog_6_method_1_code 46 = .ok (.goto (-21), 3) := by decide +kernel
theorem zd_Node_init_49 : decode prog_6_method_1_code 49 = .ok (.return_, 1) := by decide +kernel
def zm_Fraction_init : zg_M := (⟨"SurrogateTree$Fraction", "<init>", "()V"⟩, prog_4_method_1_code, 1, none)
theorem zd_Fraction_init_0 : decode prog_4_method_1_code 0 = .ok (.aload_n 0, 1) := by decide +kernel
theorem zd_Fraction_init_1 : decode prog_4_method_1_code 1 = .ok (.invokespecial 1, 3) := by decide +kernel
theorem zd_Fraction_init_4 : decode prog_4_method_1_code 4 = .ok (.aload_n 0, 1) := by decide +kernel
theorem zd_Fraction_init_5 : decode prog_4_method_1_code 5 = .ok (.lconst 0, 1) := by decide +kernel
theorem zd_Fraction_init_6 : decode prog_4_method_1_code 6 = .ok (.putfield 7, 3) := by decide +kernel
theorem zd_Fraction_init_9 : decode prog_4_method_1_code 9 = .ok (.aload_n 0, 1) := by decide +kernel
theorem zd_Fraction_init_10 : decode prog_4_method_1_code 10 = .ok (.lconst 1, 1) := by decide +kernel
theorem zd_Fraction_init_11 : decode prog_4_method_1_code 11 = .ok (.putfield 13, 3) := by decide +kernel
theorem zd_Fraction_init_14 : decode prog_4_method_1_code 14 = .ok (.return_, 1) := by decide +kernel
def zm_StandIn_init : zg_M := (⟨"SurrogateTree$StandIn", "<init>", "()V"⟩, prog_9_method_1_code, 1, none)
theorem zd_StandIn_init_0 : decode prog_9_method_1_code 0 = .ok (.aload_n 0, 1) := by decide +kernel
theorem zd_StandIn_init_1 : decode prog_9_method_1_code 1 = .ok (.invokespecial 1, 3) := by decide +kernel
theorem zd_StandIn_init_4 : decode prog_9_method_1_code 4 = .ok (.return_, 1) := by decide +kernel
def zm_Shape_init : zg_M := (⟨"SurrogateTree$Shape", "<init>", "()V"⟩, prog_7_method_1_code, 1, none)
theorem zd_Shape_init_0 : decode prog_7_method_1_code 0 = .ok (.aload_n 0, 1) := by decide +kernel
theorem zd_Shape_init_1 : decode prog_7_method_1_code 1 = .ok (.invokespecial 3, 3) := by decide +kernel
theorem zd_Shape_init_4 : decode prog_7_method_1_code 4 = .ok (.aload_n 0, 1) := by decide +kernel
theorem zd_Shape_init_5 : decode prog_7_method_1_code 5 = .ok (.bipush 32, 2) := by decide +kernel
theorem zd_Shape_init_7 : decode prog_7_method_1_code 7 = .ok (.newarray .int, 2) := by decide +kernel
theorem zd_Shape_init_9 : decode prog_7_method_1_code 9 = .ok (.putfield 9, 3) := by decide +kernel
theorem zd_Shape_init_12 : decode prog_7_method_1_code 12 = .ok (.aload_n 0, 1) := by decide +kernel
theorem zd_Shape_init_13 : decode prog_7_method_1_code 13 = .ok (.invokevirtual 15, 3) := by decide +kernel
theorem zd_Shape_init_16 : decode prog_7_method_1_code 16 = .ok (.return_, 1) := by decide +kernel
def zm_Shape_clear : zg_M := (⟨"SurrogateTree$Shape", "clear", "()V"⟩, prog_7_method_2_code, 2, none)
theorem zd_Shape_clear_0 : decode prog_7_method_2_code 0 = .ok (.iconst 0, 1) := by decide +kernel
theorem zd_Shape_clear_1 : decode prog_7_method_2_code 1 = .ok (.istore_n 1, 1) := by decide +kernel
theorem zd_Shape_clear_2 : decode prog_7_method_2_code 2 = .ok (.iload_n 1, 1) := by decide +kernel
theorem zd_Shape_clear_3 : decode prog_7_method_2_code 3 = .ok (.bipush 32, 2) := by decide +kernel
theorem zd_Shape_clear_5 : decode prog_7_method_2_code 5 = .ok (.if_icmp .ge 16, 3) := by decide +kernel
theorem zd_Shape_clear_8 : decode prog_7_method_2_code 8 = .ok (.aload_n 0, 1) := by decide +kernel
theorem zd_Shape_clear_9 : decode prog_7_method_2_code 9 = .ok (.getfield 9, 3) := by decide +kernel
theorem zd_Shape_clear_12 : decode prog_7_method_2_code 12 = .ok (.iload_n 1, 1) := by decide +kernel
theorem zd_Shape_clear_13 : decode prog_7_method_2_code 13 = .ok (.iconst (-1), 1) := by decide +kernel
theorem zd_Shape_clear_14 : decode prog_7_method_2_code 14 = .ok (.iastore, 1) := by decide +kernel
theorem zd_Shape_clear_15 : decode prog_7_method_2_code 15 = .ok (.iinc 1 1, 3) := by decide +kernel
theorem zd_Shape_clear_18 : decode prog_7_method_2_code 18 = .ok (.goto (-16), 3) := by decide +kernel
theorem zd_Shape_clear_21 : decode prog_7_method_2_code 21 = .ok (.return_, 1) := by decide +kernel
def zm_Limits_init : zg_M := (⟨"SurrogateTree$Limits", "<init>", "()V"⟩, prog_5_method_1_code, 1, none)
theorem zd_Limits_init_0 : decode prog_5_method_1_code 0 = .ok (.aload_n 0, 1) := by decide +kernel
theorem zd_Limits_init_1 : decode prog_5_method_1_code 1 = .ok (.invokespecial 3, 3) := by decide +kernel
theorem zd_Limits_init_4 : decode prog_5_method_1_code 4 = .ok (.aload_n 0, 1) := by decide +kernel
theorem zd_Limits_init_5 : decode prog_5_method_1_code 5 = .ok (.bipush 16, 2) := by decide +kernel
theorem zd_Limits_init_7 : decode prog_5_method_1_code 7 = .ok (.newarray .int, 2) := by decide +kernel
theorem zd_Limits_init_9 : decode prog_5_method_1_code 9 = .ok (.putfield 9, 3) := by decide +kernel
theorem zd_Limits_init_12 : decode prog_5_method_1_code 12 = .ok (.return_, 1) := by decide +kernel
def zm_Table_weightyRows : zg_M := (⟨"SurrogateTree$Table", "weightyRows", "()I"⟩, prog_11_method_7_code, 3, (some .int))
theorem zd_Table_weightyRows_0 : decode prog_11_method_7_code 0 = .ok (.iconst 0, 1) := by decide +kernel
theorem zd_Table_weightyRows_1 : decode prog_11_method_7_code 1 = .ok (.istore_n 1, 1) := by decide +kernel
theorem zd_Table_weightyRows_2 : decode prog_11_method_7_code 2 = .ok (.iconst 0, 1) := by decide +kernel
theorem zd_Table_weightyRows_3 : decode prog_11_method_7_code 3 = .ok (.istore_n 2, 1) := by decide +kernel
theorem zd_Table_weightyRows_4 : decode prog_11_method_7_code 4 = .ok (.iload_n 2, 1) := by decide +kernel
theorem zd_Table_weightyRows_5 : decode prog_11_method_7_code 5 = .ok (.aload_n 0, 1) := by decide +kernel
theorem zd_Table_weightyRows_6 : decode prog_11_method_7_code 6 = .ok (.getfield 23, 3) := by decide +kernel
theorem zd_Table_weightyRows_9 : decode prog_11_method_7_code 9 = .ok (.if_icmp .ge 24, 3) := by decide +kernel
theorem zd_Table_weightyRows_12 : decode prog_11_method_7_code 12 = .ok (.aload_n 0, 1) := by decide +kernel
theorem zd_Table_weightyRows_13 : decode prog_11_method_7_code 13 = .ok (.getfield 20, 3) := by decide +kernel
theorem zd_Table_weightyRows_16 : decode prog_11_method_7_code 16 = .ok (.iload_n 2, 1) := by decide +kernel
theorem zd_Table_weightyRows_17 : decode prog_11_method_7_code 17 = .ok (.iaload, 1) := by decide +kernel
theorem zd_Table_weightyRows_18 : decode prog_11_method_7_code 18 = .ok (.ifCond .le 9, 3) := by decide +kernel
theorem zd_Table_weightyRows_21 : decode prog_11_method_7_code 21 = .ok (.iload_n 1, 1) := by decide +kernel
theorem zd_Table_weightyRows_22 : decode prog_11_method_7_code 22 = .ok (.iconst 1, 1) := by decide +kernel
theorem zd_Table_weightyRows_23 : decode prog_11_method_7_code 23 = .ok (.iload_n 2, 1) := by decide +kernel
theorem zd_Table_weightyRows_24 : decode prog_11_method_7_code 24 = .ok (.ishl, 1) := by decide +kernel
theorem zd_Table_weightyRows_25 : decode prog_11_method_7_code 25 = .ok (.ior, 1) := by decide +kernel
theorem zd_Table_weightyRows_26 : decode prog_11_method_7_code 26 = .ok (.istore_n 1, 1) := by decide +kernel
theorem zd_Table_weightyRows_27 : decode prog_11_method_7_code 27 = .ok (.iinc 2 1, 3) := by decide +kernel
theorem zd_Table_weightyRows_30 : decode prog_11_method_7_code 30 = .ok (.goto (-26), 3) := by decide +kernel
theorem zd_Table_weightyRows_33 : decode prog_11_method_7_code 33 = .ok (.iload_n 1, 1) := by decide +kernel
theorem zd_Table_weightyRows_34 : decode prog_11_method_7_code 34 = .ok (.ireturn, 1) := by decide +kernel
def zm_Node_takeRows : zg_M := (⟨"SurrogateTree$Node", "takeRows", "(LSurrogateTree$Table;I)V"⟩, prog_6_method_2_code, 6, none)
theorem zd_Node_takeRows_0 : decode prog_6_method_2_code 0 = .ok (.aload_n 0, 1) := by decide +kernel
theorem zd_Node_takeRows_1 : decode prog_6_method_2_code 1 = .ok (.iload_n 2, 1) := by decide +kernel
theorem zd_Node_takeRows_2 : decode prog_6_method_2_code 2 = .ok (.putfield 25, 3) := by decide +kernel
theorem zd_Node_takeRows_5 : decode prog_6_method_2_code 5 = .ok (.aload_n 0, 1) := by decide +kernel
theorem zd_Node_takeRows_6 : decode prog_6_method_2_code 6 = .ok (.iconst 0, 1) := by decide +kernel
theorem zd_Node_takeRows_7 : decode prog_6_method_2_code 7 = .ok (.putfield 29, 3) := by decide +kernel
theorem zd_Node_takeRows_10 : decode prog_6_method_2_code 10 = .ok (.iconst 0, 1) := by decide +kernel
theorem zd_Node_takeRows_11 : decode prog_6_method_2_code 11 = .ok (.istore_n 3, 1) := by decide +kernel
theorem zd_Node_takeRows_12 : decode prog_6_method_2_code 12 = .ok (.iconst 0, 1) := by decide +kernel
theorem zd_Node_takeRows_13 : decode prog_6_method_2_code 13 = .ok (.istore 4, 2) := by decide +kernel
theorem zd_Node_takeRows_15 : decode prog_6_method_2_code 15 = .ok (.iload 4, 2) := by decide +kernel
theorem zd_Node_takeRows_17 : decode prog_6_method_2_code 17 = .ok (.iconst 4, 1) := by decide +kernel
theorem zd_Node_takeRows_18 : decode prog_6_method_2_code 18 = .ok (.if_icmp .ge 40, 3) := by decide +kernel
theorem zd_Node_takeRows_21 : decode prog_6_method_2_code 21 = .ok (.aload_n 1, 1) := by decide +kernel
theorem zd_Node_takeRows_22 : decode prog_6_method_2_code 22 = .ok (.aload_n 1, 1) := by decide +kernel
theorem zd_Node_takeRows_23 : decode prog_6_method_2_code 23 = .ok (.aload_n 0, 1) := by decide +kernel
theorem zd_Node_takeRows_24 : decode prog_6_method_2_code 24 = .ok (.getfield 25, 3) := by decide +kernel
theorem zd_Node_takeRows_27 : decode prog_6_method_2_code 27 = .ok (.iload 4, 2) := by decide +kernel
theorem zd_Node_takeRows_29 : decode prog_6_method_2_code 29 = .ok (.invokevirtual 32, 3) := by decide +kernel
theorem zd_Node_takeRows_32 : decode prog_6_method_2_code 32 = .ok (.invokevirtual 38, 3) := by decide +kernel
theorem zd_Node_takeRows_35 : decode prog_6_method_2_code 35 = .ok (.istore 5, 2) := by decide +kernel
theorem zd_Node_takeRows_37 : decode prog_6_method_2_code 37 = .ok (.iload 5, 2) := by decide +kernel
theorem zd_Node_takeRows_39 : decode prog_6_method_2_code 39 = .ok (.iload_n 3, 1) := by decide +kernel
theorem zd_Node_takeRows_40 : decode prog_6_method_2_code 40 = .ok (.if_icmp .le 12, 3) := by decide +kernel
theorem zd_Node_takeRows_43 : decode prog_6_method_2_code 43 = .ok (.iload 5, 2) := by decide +kernel
theorem zd_Node_takeRows_45 : decode prog_6_method_2_code 45 = .ok (.istore_n 3, 1) := by decide +kernel
theorem zd_Node_takeRows_46 : decode prog_6_method_2_code 46 = .ok (.aload_n 0, 1) := by decide +kernel
theorem zd_Node_takeRows_47 : decode prog_6_method_2_code 47 = .ok (.iload 4, 2) := by decide +kernel
theorem zd_Node_takeRows_49 : decode prog_6_method_2_code 49 = .ok (.putfield 29, 3) := by decide +kernel
theorem zd_Node_takeRows_52 : decode prog_6_method_2_code 52 = .ok (.iinc 4 1, 3) := by decide +kernel
theorem zd_Node_takeRows_55 : decode prog_6_method_2_code 55 = .ok (.goto (-40), 3) := by decide +kernel
theorem zd_Node_takeRows_58 : decode prog_6_method_2_code 58 = .ok (.aload_n 0, 1) := by decide +kernel
theorem zd_Node_takeRows_59 : decode prog_6_method_2_code 59 = .ok (.aload_n 1, 1) := by decide +kernel
theorem zd_Node_takeRows_60 : decode prog_6_method_2_code 60 = .ok (.aload_n 0, 1) := by decide +kernel
theorem zd_Node_takeRows_61 : decode prog_6_method_2_code 61 = .ok (.getfield 25, 3) := by decide +kernel
theorem zd_Node_takeRows_64 : decode prog_6_method_2_code 64 = .ok (.invokevirtual 38, 3) := by decide +kernel
theorem zd_Node_takeRows_67 : decode prog_6_method_2_code 67 = .ok (.iload_n 3, 1) := by decide +kernel
theorem zd_Node_takeRows_68 : decode prog_6_method_2_code 68 = .ok (.isub, 1) := by decide +kernel
theorem zd_Node_takeRows_69 : decode prog_6_method_2_code 69 = .ok (.putfield 42, 3) := by decide +kernel
theorem zd_Node_takeRows_72 : decode prog_6_method_2_code 72 = .ok (.return_, 1) := by decide +kernel
def zm_Table_rowsInClass : zg_M := (⟨"SurrogateTree$Table", "rowsInClass", "(II)I"⟩, prog_11_method_9_code, 5, (some .int))
theorem zd_Table_rowsInClass_0 : decode prog_11_method_9_code 0 = .ok (.iconst 0, 1) := by decide +kernel
theorem zd_Table_rowsInClass_1 : decode prog_11_method_9_code 1 = .ok (.istore_n 3, 1) := by decide +kernel
theorem zd_Table_rowsInClass_2 : decode prog_11_method_9_code 2 = .ok (.iconst 0, 1) := by decide +kernel
theorem zd_Table_rowsInClass_3 : decode prog_11_method_9_code 3 = .ok (.istore 4, 2) := by decide +kernel
theorem zd_Table_rowsInClass_5 : decode prog_11_method_9_code 5 = .ok (.iload 4, 2) := by decide +kernel
theorem zd_Table_rowsInClass_7 : decode prog_11_method_9_code 7 = .ok (.aload_n 0, 1) := by decide +kernel
theorem zd_Table_rowsInClass_8 : decode prog_11_method_9_code 8 = .ok (.getfield 23, 3) := by decide +kernel
theorem zd_Table_rowsInClass_11 : decode prog_11_method_9_code 11 = .ok (.if_icmp .ge 36, 3) := by decide +kernel
theorem zd_Table_rowsInClass_14 : decode prog_11_method_9_code 14 = .ok (.iload_n 1, 1) := by decide +kernel
theorem zd_Table_rowsInClass_15 : decode prog_11_method_9_code 15 = .ok (.iload 4, 2) := by decide +kernel
theorem zd_Table_rowsInClass_17 : decode prog_11_method_9_code 17 = .ok (.invokestatic 39, 3) := by decide +kernel
theorem zd_Table_rowsInClass_20 : decode prog_11_method_9_code 20 = .ok (.ifCond .eq 21, 3) := by decide +kernel
theorem zd_Table_rowsInClass_23 : decode prog_11_method_9_code 23 = .ok (.aload_n 0, 1) := by decide +kernel
theorem zd_Table_rowsInClass_24 : decode prog_11_method_9_code 24 = .ok (.getfield 16, 3) := by decide +kernel
theorem zd_Table_rowsInClass_27 : decode prog_11_method_9_code 27 = .ok (.iload 4, 2) := by decide +kernel
theorem zd_Table_rowsInClass_29 : decode prog_11_method_9_code 29 = .ok (.iaload, 1) := by decide +kernel
theorem zd_Table_rowsInClass_30 : decode prog_11_method_9_code 30 = .ok (.iload_n 2, 1) := by decide +kernel
theorem zd_Table_rowsInClass_31 : decode prog_11_method_9_code 31 = .ok (.if_icmp .ne 10, 3) := by decide +kernel
theorem zd_Table_rowsInClass_34 : decode prog_11_method_9_code 34 = .ok (.iload_n 3, 1) := by decide +kernel
theorem zd_Table_rowsInClass_35 : decode prog_11_method_9_code 35 = .ok (.iconst 1, 1) := by decide +kernel
theorem zd_Table_rowsInClass_36 : decode prog_11_method_9_code 36 = .ok (.iload 4, 2) := by decide +kernel
theorem zd_Table_rowsInClass_38 : decode prog_11_method_9_code 38 = .ok (.ishl, 1) := by decide +kernel
theorem zd_Table_rowsInClass_39 : decode prog_11_method_9_code 39 = .ok (.ior, 1) := by decide +kernel
theorem zd_Table_rowsInClass_40 : decode prog_11_method_9_code 40 = .ok (.istore_n 3, 1) := by decide +kernel
theorem zd_Table_rowsInClass_41 : decode prog_11_method_9_code 41 = .ok (.iinc 4 1, 3) := by decide +kernel
theorem zd_Table_rowsInClass_44 : decode prog_11_method_9_code 44 = .ok (.goto (-39), 3) := by decide +kernel
theorem zd_Table_rowsInClass_47 : decode prog_11_method_9_code 47 = .ok (.iload_n 3, 1) := by decide +kernel
theorem zd_Table_rowsInClass_48 : decode prog_11_method_9_code 48 = .ok (.ireturn, 1) := by decide +kernel
def zm_Table_contains : zg_M := (⟨"SurrogateTree$Table", "contains", "(II)Z"⟩, prog_11_method_12_code, 2, (some .boolean))
theorem zd_Table_contains_0 : decode prog_11_method_12_code 0 = .ok (.iload_n 0, 1) := by decide +kernel
theorem zd_Table_contains_1 : decode prog_11_method_12_code 1 = .ok (.iload_n 1, 1) := by decide +kernel
theorem zd_Table_contains_2 : decode prog_11_method_12_code 2 = .ok (.ishr, 1) := by decide +kernel
theorem zd_Table_contains_3 : decode prog_11_method_12_code 3 = .ok (.iconst 1, 1) := by decide +kernel
theorem zd_Table_contains_4 : decode prog_11_method_12_code 4 = .ok (.iand, 1) := by decide +kernel
theorem zd_Table_contains_5 : decode prog_11_method_12_code 5 = .ok (.ifCond .eq 7, 3) := by decide +kernel
theorem zd_Table_contains_8 : decode prog_11_method_12_code 8 = .ok (.iconst 1, 1) := by decide +kernel
theorem zd_Table_contains_9 : decode prog_11_method_12_code 9 = .ok (.goto 4, 3) := by decide +kernel
theorem zd_Table_contains_12 : decode prog_11_method_12_code 12 = .ok (.iconst 0, 1) := by decide +kernel
theorem zd_Table_contains_13 : decode prog_11_method_12_code 13 = .ok (.ireturn, 1) := by decide +kernel
def zm_Table_weightOf : zg_M := (⟨"SurrogateTree$Table", "weightOf", "(I)I"⟩, prog_11_method_8_code, 4, (some .int))
theorem zd_Table_weightOf_0 : decode prog_11_method_8_code 0 = .ok (.iconst 0, 1) := by decide +kernel
theorem zd_Table_weightOf_1 : decode prog_11_method_8_code 1 = .ok (.istore_n 2, 1) := by decide +kernel
theorem zd_Table_weightOf_2 : decode prog_11_method_8_code 2 = .ok (.iconst 0, 1) := by decide +kernel
theorem zd_Table_weightOf_3 : decode prog_11_method_8_code 3 = .ok (.istore_n 3, 1) := by decide +kernel
theorem zd_Table_weightOf_4 : decode prog_11_method_8_code 4 = .ok (.iload_n 3, 1) := by decide +kernel
theorem zd_Table_weightOf_5 : decode prog_11_method_8_code 5 = .ok (.aload_n 0, 1) := by decide +kernel
theorem zd_Table_weightOf_6 : decode prog_11_method_8_code 6 = .ok (.getfield 23, 3) := by decide +kernel
theorem zd_Table_weightOf_9 : decode prog_11_method_8_code 9 = .ok (.if_icmp .ge 26, 3) := by decide +kernel
theorem zd_Table_weightOf_12 : decode prog_11_method_8_code 12 = .ok (.iload_n 1, 1) := by decide +kernel
theorem zd_Table_weightOf_13 : decode prog_11_method_8_code 13 = .ok (.iload_n 3, 1) := by decide +kernel
theorem zd_Table_weightOf_14 : decode prog_11_method_8_code 14 = .ok (.invokestatic 39, 3) := by decide +kernel
theorem zd_Table_weightOf_17 : decode prog_11_method_8_code 17 = .ok (.ifCond .eq 12, 3) := by decide +kernel
theorem zd_Table_weightOf_20 : decode prog_11_method_8_code 20 = .ok (.iload_n 2, 1) := by decide +kernel
theorem zd_Table_weightOf_21 : decode prog_11_method_8_code 21 = .ok (.aload_n 0, 1) := by decide +kernel
theorem zd_Table_weightOf_22 : decode prog_11_method_8_code 22 = .ok (.getfield 20, 3) := by decide +kernel
theorem zd_Table_weightOf_25 : decode prog_11_method_8_code 25 = .ok (.iload_n 3, 1) := by decide +kernel
theorem zd_Table_weightOf_26 : decode prog_11_method_8_code 26 = .ok (.iaload, 1) := by decide +kernel
theorem zd_Table_weightOf_27 : decode prog_11_method_8_code 27 = .ok (.iadd, 1) := by decide +kernel
theorem zd_Table_weightOf_28 : decode prog_11_method_8_code 28 = .ok (.istore_n 2, 1) := by decide +kernel
theorem zd_Table_weightOf_29 : decode prog_11_method_8_code 29 = .ok (.iinc 3 1, 3) := by decide +kernel
theorem zd_Table_weightOf_32 : decode prog_11_method_8_code 32 = .ok (.goto (-28), 3) := by decide +kernel
theorem zd_Table_weightOf_35 : decode prog_11_method_8_code 35 = .ok (.iload_n 2, 1) := by decide +kernel
theorem zd_Table_weightOf_36 : decode prog_11_method_8_code 36 = .ok (.ireturn, 1) := by decide +kernel
def zm_Table_append : zg_M := (⟨"SurrogateTree$Table", "append", "(IIII)I"⟩, prog_11_method_3_code, 6, (some .int))
theorem zd_Table_append_0 : decode prog_11_method_3_code 0 = .ok (.aload_n 0, 1) := by decide +kernel
theorem zd_Table_append_1 : decode prog_11_method_3_code 1 = .ok (.getfield 23, 3) := by decide +kernel
theorem zd_Table_append_4 : decode prog_11_method_3_code 4 = .ok (.istore 5, 2) := by decide +kernel
theorem zd_Table_append_6 : decode prog_11_method_3_code 6 = .ok (.aload_n 0, 1) := by decide +kernel
theorem zd_Table_append_7 : decode prog_11_method_3_code 7 = .ok (.getfield 11, 3) := by decide +kernel
theorem zd_Table_append_10 : decode prog_11_method_3_code 10 = .ok (.iload 5, 2) := by decide +kernel
theorem zd_Table_append_12 : decode prog_11_method_3_code 12 = .ok (.aaload, 1) := by decide +kernel
theorem zd_Table_append_13 : decode prog_11_method_3_code 13 = .ok (.iconst 0, 1) := by decide +kernel
theorem zd_Table_append_14 : decode prog_11_method_3_code 14 = .ok (.iload_n 1, 1) := by decide +kernel
theorem zd_Table_append_15 : decode prog_11_method_3_code 15 = .ok (.iastore, 1) := by decide +kernel
theorem zd_Table_append_16 : decode prog_11_method_3_code 16 = .ok (.aload_n 0, 1) := by decide +kernel
theorem zd_Table_append_17 : decode prog_11_method_3_code 17 = .ok (.getfield 11, 3) := by decide +kernel
theorem zd_Table_append_20 : decode prog_11_method_3_code 20 = .ok (.iload 5, 2) := by decide +kernel
theorem zd_Table_append_22 : decode prog_11_method_3_code 22 = .ok (.aaload, 1) := by decide +kernel
theorem zd_Table_append_23 : decode prog_11_method_3_code 23 = .ok (.iconst 1, 1) := by decide +kernel
theorem zd_Table_append_24 : decode prog_11_method_3_code 24 = .ok (.iload_n 2, 1) := by decide +kernel
theorem zd_Table_append_25 : decode prog_11_method_3_code 25 = .ok (.iastore, 1) := by decide +kernel
theorem zd_Table_append_26 : decode prog_11_method_3_code 26 = .ok (.aload_n 0, 1) := by decide +kernel
theorem zd_Table_append_27 : decode prog_11_method_3_code 27 = .ok (.getfield 11, 3) := by decide +kernel
theorem zd_Table_append_30 : decode prog_11_method_3_code 30 = .ok (.iload 5, 2) := by decide +kernel
theorem zd_Table_append_32 : decode prog_11_method_3_code 32 = .ok (.aaload, 1) := by decide +kernel
theorem zd_Table_append_33 : decode prog_11_method_3_code 33 = .ok (.iconst 2, 1) := by decide +kernel
theorem zd_Table_append_34 : decode prog_11_method_3_code 34 = .ok (.iload_n 3, 1) := by decide +kernel
theorem zd_Table_append_35 : decode prog_11_method_3_code 35 = .ok (.iastore, 1) := by decide +kernel
theorem zd_Table_append_36 : decode prog_11_method_3_code 36 = .ok (.aload_n 0, 1) := by decide +kernel
theorem zd_Table_append_37 : decode prog_11_method_3_code 37 = .ok (.getfield 16, 3) := by decide +kernel
theorem zd_Table_append_40 : decode prog_11_method_3_code 40 = .ok (.iload 5, 2) := by decide +kernel
theorem zd_Table_append_42 : decode prog_11_method_3_code 42 = .ok (.iload 4, 2) := by decide +kernel
theorem zd_Table_append_44 : decode prog_11_method_3_code 44 = .ok (.iastore, 1) := by decide +kernel
theorem zd_Table_append_45 : decode prog_11_method_3_code 45 = .ok (.aload_n 0, 1) := by decide +kernel
theorem zd_Table_append_46 : decode prog_11_method_3_code 46 = .ok (.dup, 1) := by decide +kernel
theorem zd_Table_append_47 : decode prog_11_method_3_code 47 = .ok (.getfield 23, 3) := by decide +kernel
theorem zd_Table_append_50 : decode prog_11_method_3_code 50 = .ok (.iconst 1, 1) := by decide +kernel
theorem zd_Table_append_51 : decode prog_11_method_3_code 51 = .ok (.iadd, 1) := by decide +kernel
theorem zd_Table_append_52 : decode prog_11_method_3_code 52 = .ok (.putfield 23, 3) := by decide +kernel
theorem zd_Table_append_55 : decode prog_11_method_3_code 55 = .ok (.iload 5, 2) := by decide +kernel
theorem zd_Table_append_57 : decode prog_11_method_3_code 57 = .ok (.ireturn, 1) := by decide +kernel
def zm_Table_setWeights : zg_M := (⟨"SurrogateTree$Table", "setWeights", "(I)V"⟩, prog_11_method_4_code, 3, none)
theorem zd_Table_setWeights_0 : decode prog_11_method_4_code 0 = .ok (.iconst 0, 1) := by decide +kernel
theorem zd_Table_setWeights_1 : decode prog_11_method_4_code 1 = .ok (.istore_n 2, 1) := by decide +kernel
theorem zd_Table_setWeights_2 : decode prog_11_method_4_code 2 = .ok (.iload_n 2, 1) := by decide +kernel
theorem zd_Table_setWeights_3 : decode prog_11_method_4_code 3 = .ok (.aload_n 0, 1) := by decide +kernel
theorem zd_Table_setWeights_4 : decode prog_11_method_4_code 4 = .ok (.getfield 23, 3) := by decide +kernel
theorem zd_Table_setWeights_7 : decode prog_11_method_4_code 7 = .ok (.if_icmp .ge 16, 3) := by decide +kernel
theorem zd_Table_setWeights_10 : decode prog_11_method_4_code 10 = .ok (.aload_n 0, 1) := by decide +kernel
theorem zd_Table_setWeights_11 : decode prog_11_method_4_code 11 = .ok (.getfield 20, 3) := by decide +kernel
theorem zd_Table_setWeights_14 : decode prog_11_method_4_code 14 = .ok (.iload_n 2, 1) := by decide +kernel
theorem zd_Table_setWeights_15 : decode prog_11_method_4_code 15 = .ok (.iload_n 1, 1) := by decide +kernel
theorem zd_Table_setWeights_16 : decode prog_11_method_4_code 16 = .ok (.iastore, 1) := by decide +kernel
theorem zd_Table_setWeights_17 : decode prog_11_method_4_code 17 = .ok (.iinc 2 1, 3) := by decide +kernel
theorem zd_Table_setWeights_20 : decode prog_11_method_4_code 20 = .ok (.goto (-18), 3) := by decide +kernel
theorem zd_Table_setWeights_23 : decode prog_11_method_4_code 23 = .ok (.return_, 1) := by decide +kernel
def zm_Ballot_clear : zg_M := (⟨"SurrogateTree$Ballot", "clear", "()V"⟩, prog_2_method_2_code, 3, none)
theorem zd_Ballot_clear_0 : decode prog_2_method_2_code 0 = .ok (.iconst 0, 1) := by decide +kernel
theorem zd_Ballot_clear_1 : decode prog_2_method_2_code 1 = .ok (.istore_n 1, 1) := by decide +kernel
theorem zd_Ballot_clear_2 : decode prog_2_method_2_code 2 = .ok (.iload_n 1, 1) := by decide +kernel
theorem zd_Ballot_clear_3 : decode prog_2_method_2_code 3 = .ok (.bipush 16, 2) := by decide +kernel
theorem zd_Ballot_clear_5 : decode prog_2_method_2_code 5 = .ok (.if_icmp .ge 31, 3) := by decide +kernel
theorem zd_Ballot_clear_8 : decode prog_2_method_2_code 8 = .ok (.iconst 0, 1) := by decide +kernel
theorem zd_Ballot_clear_9 : decode prog_2_method_2_code 9 = .ok (.istore_n 2, 1) := by decide +kernel
theorem zd_Ballot_clear_10 : decode prog_2_method_2_code 10 = .ok (.iload_n 2, 1) := by decide +kernel
theorem zd_Ballot_clear_11 : decode prog_2_method_2_code 11 = .ok (.iconst 4, 1) := by decide +kernel
theorem zd_Ballot_clear_12 : decode prog_2_method_2_code 12 = .ok (.if_icmp .ge 18, 3) := by decide +kernel
theorem zd_Ballot_clear_15 : decode prog_2_method_2_code 15 = .ok (.aload_n 0, 1) := by decide +kernel
theorem zd_Ballot_clear_16 : decode prog_2_method_2_code 16 = .ok (.getfield 11, 3) := by decide +kernel
theorem zd_Ballot_clear_19 : decode prog_2_method_2_code 19 = .ok (.iload_n 1, 1) := by decide +kernel
theorem zd_Ballot_clear_20 : decode prog_2_method_2_code 20 = .ok (.aaload, 1) := by decide +kernel
theorem zd_Ballot_clear_21 : decode prog_2_method_2_code 21 = .ok (.iload_n 2, 1) := by decide +kernel
theorem zd_Ballot_clear_22 : decode prog_2_method_2_code 22 = .ok (.iconst 0, 1) := by decide +kernel
theorem zd_Ballot_clear_23 : decode prog_2_method_2_code 23 = .ok (.iastore, 1) := by decide +kernel
theorem zd_Ballot_clear_24 : decode prog_2_method_2_code 24 = .ok (.iinc 2 1, 3) := by decide +kernel
theorem zd_Ballot_clear_27 : decode prog_2_method_2_code 27 = .ok (.goto (-17), 3) := by decide +kernel
theorem zd_Ballot_clear_30 : decode prog_2_method_2_code 30 = .ok (.iinc 1 1, 3) := by decide +kernel
theorem zd_Ballot_clear_33 : decode prog_2_method_2_code 33 = .ok (.goto (-31), 3) := by decide +kernel
theorem zd_Ballot_clear_36 : decode prog_2_method_2_code 36 = .ok (.return_, 1) := by decide +kernel
def zm_Table_draw : zg_M := (⟨"SurrogateTree$Table", "draw", "(J)V"⟩, prog_11_method_5_code, 8, none)
theorem zd_Table_draw_0 : decode prog_11_method_5_code 0 = .ok (.aload_n 0, 1) := by decide +kernel
theorem zd_Table_draw_1 : decode prog_11_method_5_code 1 = .ok (.iconst 0, 1) := by decide +kernel
theorem zd_Table_draw_2 : decode prog_11_method_5_code 2 = .ok (.invokevirtual 27, 3) := by decide +kernel
theorem zd_Table_draw_5 : decode prog_11_method_5_code 5 = .ok (.lload_n 1, 1) := by decide +kernel
theorem zd_Table_draw_6 : decode prog_11_method_5_code 6 = .ok (.lstore_n 3, 1) := by decide +kernel
theorem zd_Table_draw_7 : decode prog_11_method_5_code 7 = .ok (.iconst 0, 1) := by decide +kernel
theorem zd_Table_draw_8 : decode prog_11_method_5_code 8 = .ok (.istore 5, 2) := by decide +kernel
theorem zd_Table_draw_10 : decode prog_11_method_5_code 10 = .ok (.iload 5, 2) := by decide +kernel
theorem zd_Table_draw_12 : decode prog_11_method_5_code 12 = .ok (.aload_n 0, 1) := by decide +kernel
theorem zd_Table_draw_13 : decode prog_11_method_5_code 13 = .ok (.getfield 23, 3) := by decide +kernel
theorem zd_Table_draw_16 : decode prog_11_method_5_code 16 = .ok (.if_icmp .ge 71, 3) := by decide +kernel
theorem zd_Table_draw_19 : decode prog_11_method_5_code 19 = .ok (.bipush 32, 2) := by decide +kernel
theorem zd_Table_draw_21 : decode prog_11_method_5_code 21 = .ok (.istore 6, 2) := by decide +kernel
theorem zd_Table_draw_23 : decode prog_11_method_5_code 23 = .ok (.iconst 0, 1) := by decide +kernel
theorem zd_Table_draw_24 : decode prog_11_method_5_code 24 = .ok (.istore 7, 2) := by decide +kernel
theorem zd_Table_draw_26 : decode prog_11_method_5_code 26 = .ok (.iload 7, 2) := by decide +kernel
theorem zd_Table_draw_28 : decode prog_11_method_5_code 28 = .ok (.bipush 8, 2) := by decide +kernel
theorem zd_Table_draw_30 : decode prog_11_method_5_code 30 = .ok (.if_icmp .ge 35, 3) := by decide +kernel
theorem zd_Table_draw_33 : decode prog_11_method_5_code 33 = .ok (.aload_n 0, 1) := by decide +kernel
theorem zd_Table_draw_34 : decode prog_11_method_5_code 34 = .ok (.iload 6, 2) := by decide +kernel
theorem zd_Table_draw_36 : decode prog_11_method_5_code 36 = .ok (.invokevirtual 31, 3) := by decide +kernel
theorem zd_Table_draw_39 : decode prog_11_method_5_code 39 = .ok (.ifCond .ne 26, 3) := by decide +kernel
theorem zd_Table_draw_42 : decode prog_11_method_5_code 42 = .ok (.lload_n 3, 1) := by decide +kernel
theorem zd_Table_draw_43 : decode prog_11_method_5_code 43 = .ok (.ldc2_w 35, 3) := by decide +kernel
theorem zd_Table_draw_46 : decode prog_11_method_5_code 46 = .ok (.lmul, 1) := by decide +kernel
theorem zd_Table_draw_47 : decode prog_11_method_5_code 47 = .ok (.ldc2_w 37, 3) := by decide +kernel
theorem zd_Table_draw_50 : decode prog_11_method_5_code 50 = .ok (.ladd, 1) := by decide +kernel
theorem zd_Table_draw_51 : decode prog_11_method_5_code 51 = .ok (.lstore_n 3, 1) := by decide +kernel
theorem zd_Table_draw_52 : decode prog_11_method_5_code 52 = .ok (.lload_n 3, 1) := by decide +kernel
theorem zd_Table_draw_53 : decode prog_11_method_5_code 53 = .ok (.bipush 59, 2) := by decide +kernel
theorem zd_Table_draw_55 : decode prog_11_method_5_code 55 = .ok (.lushr, 1) := by decide +kernel
theorem zd_Table_draw_56 : decode prog_11_method_5_code 56 = .ok (.l2i, 1) := by decide +kernel
theorem zd_Table_draw_57 : decode prog_11_method_5_code 57 = .ok (.istore 6, 2) := by decide +kernel
theorem zd_Table_draw_59 : decode prog_11_method_5_code 59 = .ok (.iinc 7 1, 3) := by decide +kernel
theorem zd_Table_draw_62 : decode prog_11_method_5_code 62 = .ok (.goto (-36), 3) := by decide +kernel
theorem zd_Table_draw_65 : decode prog_11_method_5_code 65 = .ok (.aload_n 0, 1) := by decide +kernel
theorem zd_Table_draw_66 : decode prog_11_method_5_code 66 = .ok (.getfield 20, 3) := by decide +kernel
theorem zd_Table_draw_69 : decode prog_11_method_5_code 69 = .ok (.iload 6, 2) := by decide +kernel
theorem zd_Table_draw_71 : decode prog_11_method_5_code 71 = .ok (.aload_n 0, 1) := by decide +kernel
theorem zd_Table_draw_72 : decode prog_11_method_5_code 72 = .ok (.getfield 23, 3) := by decide +kernel
theorem zd_Table_draw_75 : decode prog_11_method_5_code 75 = .ok (.irem, 1) := by decide +kernel
theorem zd_Table_draw_76 : decode prog_11_method_5_code 76 = .ok (.dup2, 1) := by decide +kernel
theorem zd_Table_draw_77 : decode prog_11_method_5_code 77 = .ok (.iaload, 1) := by decide +kernel
theorem zd_Table_draw_78 : decode prog_11_method_5_code 78 = .ok (.iconst 1, 1) := by decide +kernel
theorem zd_Table_draw_79 : decode prog_11_method_5_code 79 = .ok (.iadd, 1) := by decide +kernel
theorem zd_Table_draw_80 : decode prog_11_method_5_code 80 = .ok (.iastore, 1) := by decide +kernel
theorem zd_Table_draw_81 : decode prog_11_method_5_code 81 = .ok (.iinc 5 1, 3) := by decide +kernel
theorem zd_Table_draw_84 : decode prog_11_method_5_code 84 = .ok (.goto (-74), 3) := by decide +kernel
theorem zd_Table_draw_87 : decode prog_11_method_5_code 87 = .ok (.return_, 1) := by decide +kernel
def zm_Table_isFair : zg_M := (⟨"SurrogateTree$Table", "isFair", "(I)Z"⟩, prog_11_method_6_code, 2, (some .boolean))
theorem zd_Table_isFair_0 : decode prog_11_method_6_code 0 = .ok (.iload_n 1, 1) := by decide +kernel
theorem zd_Table_isFair_1 : decode prog_11_method_6_code 1 = .ok (.bipush 32, 2) := by decide +kernel
theorem zd_Table_isFair_3 : decode prog_11_method_6_code 3 = .ok (.bipush 32, 2) := by decide +kernel
theorem zd_Table_isFair_5 : decode prog_11_method_6_code 5 = .ok (.aload_n 0, 1) := by decide +kernel
theorem zd_Table_isFair_6 : decode prog_11_method_6_code 6 = .ok (.getfield 23, 3) := by decide +kernel
theorem zd_Table_isFair_9 : decode prog_11_method_6_code 9 = .ok (.irem, 1) := by decide +kernel
theorem zd_Table_isFair_10 : decode prog_11_method_6_code 10 = .ok (.isub, 1) := by decide +kernel
theorem zd_Table_isFair_11 : decode prog_11_method_6_code 11 = .ok (.if_icmp .ge 7, 3) := by decide +kernel
theorem zd_Table_isFair_14 : decode prog_11_method_6_code 14 = .ok (.iconst 1, 1) := by decide +kernel
theorem zd_Table_isFair_15 : decode prog_11_method_6_code 15 = .ok (.goto 4, 3) := by decide +kernel
theorem zd_Table_isFair_18 : decode prog_11_method_6_code 18 = .ok (.iconst 0, 1) := by decide +kernel
theorem zd_Table_isFair_19 : decode prog_11_method_6_code 19 = .ok (.ireturn, 1) := by decide +kernel
def zm_Table_has : zg_M := (⟨"SurrogateTree$Table", "has", "(I)Z"⟩, prog_11_method_2_code, 2, (some .boolean))
theorem zd_Table_has_0 : decode prog_11_method_2_code 0 = .ok (.iload_n 1, 1) := by decide +kernel
theorem zd_Table_has_1 : decode prog_11_method_2_code 1 = .ok (.ifCond .lt 15, 3) := by decide +kernel
theorem zd_Table_has_4 : decode prog_11_method_2_code 4 = .ok (.iload_n 1, 1) := by decide +kernel
theorem zd_Table_has_5 : decode prog_11_method_2_code 5 = .ok (.aload_n 0, 1) := by decide +kernel
theorem zd_Table_has_6 : decode prog_11_method_2_code 6 = .ok (.getfield 23, 3) := by decide +kernel
theorem zd_Table_has_9 : decode prog_11_method_2_code 9 = .ok (.if_icmp .ge 7, 3) := by decide +kernel
theorem zd_Table_has_12 : decode prog_11_method_2_code 12 = .ok (.iconst 1, 1) := by decide +kernel
theorem zd_Table_has_13 : decode prog_11_method_2_code 13 = .ok (.goto 4, 3) := by decide +kernel
theorem zd_Table_has_16 : decode prog_11_method_2_code 16 = .ok (.iconst 0, 1) := by decide +kernel
theorem zd_Table_has_17 : decode prog_11_method_2_code 17 = .ok (.ireturn, 1) := by decide +kernel
def zm_Shape_firstWaiting : zg_M := (⟨"SurrogateTree$Shape", "firstWaiting", "()I"⟩, prog_7_method_4_code, 2, (some .int))
theorem zd_Shape_firstWaiting_0 : decode prog_7_method_4_code 0 = .ok (.iconst 1, 1) := by decide +kernel
theorem zd_Shape_firstWaiting_1 : decode prog_7_method_4_code 1 = .ok (.istore_n 1, 1) := by decide +kernel
theorem zd_Shape_firstWaiting_2 : decode prog_7_method_4_code 2 = .ok (.iload_n 1, 1) := by decide +kernel
theorem zd_Shape_firstWaiting_3 : decode prog_7_method_4_code 3 = .ok (.bipush 32, 2) := by decide +kernel
theorem zd_Shape_firstWaiting_5 : decode prog_7_method_4_code 5 = .ok (.if_icmp .ge 20, 3) := by decide +kernel
theorem zd_Shape_firstWaiting_8 : decode prog_7_method_4_code 8 = .ok (.aload_n 0, 1) := by decide +kernel
theorem zd_Shape_firstWaiting_9 : decode prog_7_method_4_code 9 = .ok (.getfield 9, 3) := by decide +kernel
theorem zd_Shape_firstWaiting_12 : decode prog_7_method_4_code 12 = .ok (.iload_n 1, 1) := by decide +kernel
theorem zd_Shape_firstWaiting_13 : decode prog_7_method_4_code 13 = .ok (.iaload, 1) := by decide +kernel
theorem zd_Shape_firstWaiting_14 : decode prog_7_method_4_code 14 = .ok (.ifCond .ne 5, 3) := by decide +kernel
theorem zd_Shape_firstWaiting_17 : decode prog_7_method_4_code 17 = .ok (.iload_n 1, 1) := by decide +kernel
theorem zd_Shape_firstWaiting_18 : decode prog_7_method_4_code 18 = .ok (.ireturn, 1) := by decide +kernel
theorem zd_Shape_firstWaiting_19 : decode prog_7_method_4_code 19 = .ok (.iinc 1 1, 3) := by decide +kernel
theorem zd_Shape_firstWaiting_22 : decode prog_7_method_4_code 22 = .ok (.goto (-20), 3) := by decide +kernel
theorem zd_Shape_firstWaiting_25 : decode prog_7_method_4_code 25 = .ok (.iconst 0, 1) := by decide +kernel
theorem zd_Shape_firstWaiting_26 : decode prog_7_method_4_code 26 = .ok (.ireturn, 1) := by decide +kernel
def zm_Fraction_set : zg_M := (⟨"SurrogateTree$Fraction", "set", "(JJ)V"⟩, prog_4_method_2_code, 7, none)
theorem zd_Fraction_set_0 : decode prog_4_method_2_code 0 = .ok (.lload_n 1, 1) := by decide +kernel
theorem zd_Fraction_set_1 : decode prog_4_method_2_code 1 = .ok (.lload_n 3, 1) := by decide +kernel
theorem zd_Fraction_set_2 : decode prog_4_method_2_code 2 = .ok (.invokestatic 16, 3) := by decide +kernel
theorem zd_Fraction_set_5 : decode prog_4_method_2_code 5 = .ok (.lstore 5, 2) := by decide +kernel
theorem zd_Fraction_set_7 : decode prog_4_method_2_code 7 = .ok (.lload 5, 2) := by decide +kernel
theorem zd_Fraction_set_9 : decode prog_4_method_2_code 9 = .ok (.lconst 0, 1) := by decide +kernel
theorem zd_Fraction_set_10 : decode prog_4_method_2_code 10 = .ok (.lcmp, 1) := by decide +kernel
theorem zd_Fraction_set_11 : decode prog_4_method_2_code 11 = .ok (.ifCond .le 19, 3) := by decide +kernel
theorem zd_Fraction_set_14 : decode prog_4_method_2_code 14 = .ok (.aload_n 0, 1) := by decide +kernel
theorem zd_Fraction_set_15 : decode prog_4_method_2_code 15 = .ok (.lload_n 1, 1) := by decide +kernel
theorem zd_Fraction_set_16 : decode prog_4_method_2_code 16 = .ok (.lload 5, 2) := by decide +kernel
theorem zd_Fraction_set_18 : decode prog_4_method_2_code 18 = .ok (.ldiv, 1) := by decide +kernel
theorem zd_Fraction_set_19 : decode prog_4_method_2_code 19 = .ok (.putfield 7, 3) := by decide +kernel
theorem zd_Fraction_set_22 : decode prog_4_method_2_code 22 = .ok (.aload_n 0, 1) := by decide +kernel
theorem zd_Fraction_set_23 : decode prog_4_method_2_code 23 = .ok (.lload_n 3, 1) := by decide +kernel
theorem zd_Fraction_set_24 : decode prog_4_method_2_code 24 = .ok (.lload 5, 2) := by decide +kernel
theorem zd_Fraction_set_26 : decode prog_4_method_2_code 26 = .ok (.ldiv, 1) := by decide +kernel
theorem zd_Fraction_set_27 : decode prog_4_method_2_code 27 = .ok (.putfield 13, 3) := by decide +kernel
theorem zd_Fraction_set_30 : decode prog_4_method_2_code 30 = .ok (.return_, 1) := by decide +kernel
def zm_Fraction_commonDivisor : zg_M := (⟨"SurrogateTree$Fraction", "commonDivisor", "(JJ)J"⟩, prog_4_method_5_code, 11, (some .long))
theorem zd_Fraction_commonDivisor_0 : decode prog_4_method_5_code 0 = .ok (.lload_n 0, 1) := by decide +kernel
theorem zd_Fraction_commonDivisor_1 : decode prog_4_method_5_code 1 = .ok (.lstore 4, 2) := by decide +kernel
theorem zd_Fraction_commonDivisor_3 : decode prog_4_method_5_code 3 = .ok (.lload_n 2, 1) := by decide +kernel
theorem zd_Fraction_commonDivisor_4 : decode prog_4_method_5_code 4 = .ok (.lstore 6, 2) := by decide +kernel
theorem zd_Fraction_commonDivisor_6 : decode prog_4_method_5_code 6 = .ok (.iconst 0, 1) := by decide +kernel
theorem zd_Fraction_commonDivisor_7 : decode prog_4_method_5_code 7 = .ok (.istore 8, 2) := by decide +kernel
theorem zd_Fraction_commonDivisor_9 : decode prog_4_method_5_code 9 = .ok (.iload 8, 2) := by decide +kernel
theorem zd_Fraction_commonDivisor_11 : decode prog_4_method_5_code 11 = .ok (.bipush 100, 2) := by decide +kernel
theorem zd_Fraction_commonDivisor_13 : decode prog_4_method_5_code 13 = .ok (.if_icmp .ge 31, 3) := by decide +kernel
theorem zd_Fraction_commonDivisor_16 : decode prog_4_method_5_code 16 = .ok (.lload 6, 2) := by decide +kernel
theorem zd_Fraction_commonDivisor_18 : decode prog_4_method_5_code 18 = .ok (.lconst 0, 1) := by decide +kernel
theorem zd_Fraction_commonDivisor_19 : decode prog_4_method_5_code 19 = .ok (.lcmp, 1) := by decide +kernel
theorem zd_Fraction_commonDivisor_20 : decode prog_4_method_5_code 20 = .ok (.ifCond .eq 24, 3) := by decide +kernel
theorem zd_Fraction_commonDivisor_23 : decode prog_4_method_5_code 23 = .ok (.lload 4, 2) := by decide +kernel
theorem zd_Fraction_commonDivisor_25 : decode prog_4_method_5_code 25 = .ok (.lload 6, 2) := by decide +kernel
theorem zd_Fraction_commonDivisor_27 : decode prog_4_method_5_code 27 = .ok (.lrem, 1) := by decide +kernel
theorem zd_Fraction_commonDivisor_28 : decode prog_4_method_5_code 28 = .ok (.lstore 9, 2) := by decide +kernel
theorem zd_Fraction_commonDivisor_30 : decode prog_4_method_5_code 30 = .ok (.lload 6, 2) := by decide +kernel
theorem zd_Fraction_commonDivisor_32 : decode prog_4_method_5_code 32 = .ok (.lstore 4, 2) := by decide +kernel
theorem zd_Fraction_commonDivisor_34 : decode prog_4_method_5_code 34 = .ok (.lload 9, 2) := by decide +kernel
theorem zd_Fraction_commonDivisor_36 : decode prog_4_method_5_code 36 = .ok (.lstore 6, 2) := by decide +kernel
theorem zd_Fraction_commonDivisor_38 : decode prog_4_method_5_code 38 = .ok (.iinc 8 1, 3) := by decide +kernel
theorem zd_Fraction_commonDivisor_41 : decode prog_4_method_5_code 41 = .ok (.goto (-32), 3) := by decide +kernel
theorem zd_Fraction_commonDivisor_44 : decode prog_4_method_5_code 44 = .ok (.lload 4, 2) := by decide +kernel
theorem zd_Fraction_commonDivisor_46 : decode prog_4_method_5_code 46 = .ok (.lreturn, 1) := by decide +kernel
def zm_Table_rowsPresent : zg_M := (⟨"SurrogateTree$Table", "rowsPresent", "(II)I"⟩, prog_11_method_10_code, 5, (some .int))
theorem zd_Table_rowsPresent_0 : decode prog_11_method_10_code 0 = .ok (.iconst 0, 1) := by decide +kernel
theorem zd_Table_rowsPresent_1 : decode prog_11_method_10_code 1 = .ok (.istore_n 3, 1) := by decide +kernel
theorem zd_Table_rowsPresent_2 : decode prog_11_method_10_code 2 = .ok (.iconst 0, 1) := by decide +kernel
theorem zd_Table_rowsPresent_3 : decode prog_11_method_10_code 3 = .ok (.istore 4, 2) := by decide +kernel
theorem zd_Table_rowsPresent_5 : decode prog_11_method_10_code 5 = .ok (.iload 4, 2) := by decide +kernel
theorem zd_Table_rowsPresent_7 : decode prog_11_method_10_code 7 = .ok (.aload_n 0, 1) := by decide +kernel
theorem zd_Table_rowsPresent_8 : decode prog_11_method_10_code 8 = .ok (.getfield 23, 3) := by decide +kernel
theorem zd_Table_rowsPresent_11 : decode prog_11_method_10_code 11 = .ok (.if_icmp .ge 39, 3) := by decide +kernel
theorem zd_Table_rowsPresent_14 : decode prog_11_method_10_code 14 = .ok (.iload_n 1, 1) := by decide +kernel
theorem zd_Table_rowsPresent_15 : decode prog_11_method_10_code 15 = .ok (.iload 4, 2) := by decide +kernel
theorem zd_Table_rowsPresent_17 : decode prog_11_method_10_code 17 = .ok (.invokestatic 39, 3) := by decide +kernel
theorem zd_Table_rowsPresent_20 : decode prog_11_method_10_code 20 = .ok (.ifCond .eq 24, 3) := by decide +kernel
theorem zd_Table_rowsPresent_23 : decode prog_11_method_10_code 23 = .ok (.aload_n 0, 1) := by decide +kernel
theorem zd_Table_rowsPresent_24 : decode prog_11_method_10_code 24 = .ok (.getfield 11, 3) := by decide +kernel
theorem zd_Table_rowsPresent_27 : decode prog_11_method_10_code 27 = .ok (.iload 4, 2) := by decide +kernel
theorem zd_Table_rowsPresent_29 : decode prog_11_method_10_code 29 = .ok (.aaload, 1) := by decide +kernel
theorem zd_Table_rowsPresent_30 : decode prog_11_method_10_code 30 = .ok (.iload_n 2, 1) := by decide +kernel
theorem zd_Table_rowsPresent_31 : decode prog_11_method_10_code 31 = .ok (.iaload, 1) := by decide +kernel
theorem zd_Table_rowsPresent_32 : decode prog_11_method_10_code 32 = .ok (.ldc 43, 2) := by decide +kernel
theorem zd_Table_rowsPresent_34 : decode prog_11_method_10_code 34 = .ok (.if_icmp .eq 10, 3) := by decide +kernel
theorem zd_Table_rowsPresent_37 : decode prog_11_method_10_code 37 = .ok (.iload_n 3, 1) := by decide +kernel
theorem zd_Table_rowsPresent_38 : decode prog_11_method_10_code 38 = .ok (.iconst 1, 1) := by decide +kernel
theorem zd_Table_rowsPresent_39 : decode prog_11_method_10_code 39 = .ok (.iload 4, 2) := by decide +kernel
theorem zd_Table_rowsPresent_41 : decode prog_11_method_10_code 41 = .ok (.ishl, 1) := by decide +kernel
theorem zd_Table_rowsPresent_42 : decode prog_11_method_10_code 42 = .ok (.ior, 1) := by decide +kernel
theorem zd_Table_rowsPresent_43 : decode prog_11_method_10_code 43 = .ok (.istore_n 3, 1) := by decide +kernel
theorem zd_Table_rowsPresent_44 : decode prog_11_method_10_code 44 = .ok (.iinc 4 1, 3) := by decide +kernel
theorem zd_Table_rowsPresent_47 : decode prog_11_method_10_code 47 = .ok (.goto (-42), 3) := by decide +kernel
theorem zd_Table_rowsPresent_50 : decode prog_11_method_10_code 50 = .ok (.iload_n 3, 1) := by decide +kernel
theorem zd_Table_rowsPresent_51 : decode prog_11_method_10_code 51 = .ok (.ireturn, 1) := by decide +kernel
def zm_Limits_collect : zg_M := (⟨"SurrogateTree$Limits", "collect", "(LSurrogateTree$Table;II)V"⟩, prog_5_method_2_code, 5, none)
theorem zd_Limits_collect_0 : decode prog_5_method_2_code 0 = .ok (.aload_n 0, 1) := by decide +kernel
theorem zd_Limits_collect_1 : decode prog_5_method_2_code 1 = .ok (.iconst 0, 1) := by decide +kernel
theorem zd_Limits_collect_2 : decode prog_5_method_2_code 2 = .ok (.putfield 15, 3) := by decide +kernel
theorem zd_Limits_collect_5 : decode prog_5_method_2_code 5 = .ok (.iconst 0, 1) := by decide +kernel
theorem zd_Limits_collect_6 : decode prog_5_method_2_code 6 = .ok (.istore 4, 2) := by decide +kernel
theorem zd_Limits_collect_8 : decode prog_5_method_2_code 8 = .ok (.iload 4, 2) := by decide +kernel
theorem zd_Limits_collect_10 : decode prog_5_method_2_code 10 = .ok (.aload_n 1, 1) := by decide +kernel
theorem zd_Limits_collect_11 : decode prog_5_method_2_code 11 = .ok (.getfield 19, 3) := by decide +kernel
theorem zd_Limits_collect_14 : decode prog_5_method_2_code 14 = .ok (.if_icmp .ge 31, 3) := by decide +kernel
theorem zd_Limits_collect_17 : decode prog_5_method_2_code 17 = .ok (.iload_n 2, 1) := by decide +kernel
theorem zd_Limits_collect_18 : decode prog_5_method_2_code 18 = .ok (.iload 4, 2) := by decide +kernel
theorem zd_Limits_collect_20 : decode prog_5_method_2_code 20 = .ok (.invokestatic 24, 3) := by decide +kernel
theorem zd_Limits_collect_23 : decode prog_5_method_2_code 23 = .ok (.ifCond .eq 16, 3) := by decide +kernel
theorem zd_Limits_collect_26 : decode prog_5_method_2_code 26 = .ok (.aload_n 0, 1) := by decide +kernel
theorem zd_Limits_collect_27 : decode prog_5_method_2_code 27 = .ok (.aload_n 1, 1) := by decide +kernel
theorem zd_Limits_collect_28 : decode prog_5_method_2_code 28 = .ok (.getfield 28, 3) := by decide +kernel
theorem zd_Limits_collect_31 : decode prog_5_method_2_code 31 = .ok (.iload 4, 2) := by decide +kernel
theorem zd_Limits_collect_33 : decode prog_5_method_2_code 33 = .ok (.aaload, 1) := by decide +kernel
theorem zd_Limits_collect_34 : decode prog_5_method_2_code 34 = .ok (.iload_n 3, 1) := by decide +kernel
theorem zd_Limits_collect_35 : decode prog_5_method_2_code 35 = .ok (.iaload, 1) := by decide +kernel
theorem zd_Limits_collect_36 : decode prog_5_method_2_code 36 = .ok (.invokevirtual 32, 3) := by decide +kernel
theorem zd_Limits_collect_39 : decode prog_5_method_2_code 39 = .ok (.iinc 4 1, 3) := by decide +kernel
theorem zd_Limits_collect_42 : decode prog_5_method_2_code 42 = .ok (.goto (-34), 3) := by decide +kernel
theorem zd_Limits_collect_45 : decode prog_5_method_2_code 45 = .ok (.return_, 1) := by decide +kernel
def zm_Limits_insert : zg_M := (⟨"SurrogateTree$Limits", "insert", "(I)V"⟩, prog_5_method_3_code, 4, none)
theorem zd_Limits_insert_0 : decode prog_5_method_3_code 0 = .ok (.iconst 0, 1) := by decide +kernel
theorem zd_Limits_insert_1 : decode prog_5_method_3_code 1 = .ok (.istore_n 2, 1) := by decide +kernel
theorem zd_Limits_insert_2 : decode prog_5_method_3_code 2 = .ok (.iload_n 2, 1) := by decide +kernel
theorem zd_Limits_insert_3 : decode prog_5_method_3_code 3 = .ok (.aload_n 0, 1) := by decide +kernel
theorem zd_Limits_insert_4 : decode prog_5_method_3_code 4 = .ok (.getfield 15, 3) := by decide +kernel
theorem zd_Limits_insert_7 : decode prog_5_method_3_code 7 = .ok (.if_icmp .ge 19, 3) := by decide +kernel
theorem zd_Limits_insert_10 : decode prog_5_method_3_code 10 = .ok (.aload_n 0, 1) := by decide +kernel
theorem zd_Limits_insert_11 : decode prog_5_method_3_code 11 = .ok (.getfield 9, 3) := by decide +kernel
theorem zd_Limits_insert_14 : decode prog_5_method_3_code 14 = .ok (.iload_n 2, 1) := by decide +kernel
theorem zd_Limits_insert_15 : decode prog_5_method_3_code 15 = .ok (.iaload, 1) := by decide +kernel
theorem zd_Limits_insert_16 : decode prog_5_method_3_code 16 = .ok (.iload_n 1, 1) := by decide +kernel
theorem zd_Limits_insert_17 : decode prog_5_method_3_code 17 = .ok (.if_icmp .ge 9, 3) := by decide +kernel
theorem zd_Limits_insert_20 : decode prog_5_method_3_code 20 = .ok (.iinc 2 1, 3) := by decide +kernel
theorem zd_Limits_insert_23 : decode prog_5_method_3_code 23 = .ok (.goto (-21), 3) := by decide +kernel
theorem zd_Limits_insert_26 : decode prog_5_method_3_code 26 = .ok (.iload_n 2, 1) := by decide +kernel
theorem zd_Limits_insert_27 : decode prog_5_method_3_code 27 = .ok (.aload_n 0, 1) := by decide +kernel
theorem zd_Limits_insert_28 : decode prog_5_method_3_code 28 = .ok (.getfield 15, 3) := by decide +kernel
theorem zd_Limits_insert_31 : decode prog_5_method_3_code 31 = .ok (.if_icmp .ge 14, 3) := by decide +kernel
theorem zd_Limits_insert_34 : decode prog_5_method_3_code 34 = .ok (.aload_n 0, 1) := by decide +kernel
theorem zd_Limits_insert_35 : decode prog_5_method_3_code 35 = .ok (.getfield 9, 3) := by decide +kernel
theorem zd_Limits_insert_38 : decode prog_5_method_3_code 38 = .ok (.iload_n 2, 1) := by decide +kernel
theorem zd_Limits_insert_39 : decode prog_5_method_3_code 39 = .ok (.iaload, 1) := by decide +kernel
theorem zd_Limits_insert_40 : decode prog_5_method_3_code 40 = .ok (.iload_n 1, 1) := by decide +kernel
theorem zd_Limits_insert_41 : decode prog_5_method_3_code 41 = .ok (.if_icmp .ne 4, 3) := by decide +kernel
theorem zd_Limits_insert_44 : decode prog_5_method_3_code 44 = .ok (.return_, 1) := by decide +kernel
theorem zd_Limits_insert_45 : decode prog_5_method_3_code 45 = .ok (.aload_n 0, 1) := by decide +kernel
theorem zd_Limits_insert_46 : decode prog_5_method_3_code 46 = .ok (.getfield 15, 3) := by decide +kernel
theorem zd_Limits_insert_49 : decode prog_5_method_3_code 49 = .ok (.istore_n 3, 1) := by decide +kernel
theorem zd_Limits_insert_50 : decode prog_5_method_3_code 50 = .ok (.iload_n 3, 1) := by decide +kernel
theorem zd_Limits_insert_51 : decode prog_5_method_3_code 51 = .ok (.iload_n 2, 1) := by decide +kernel
theorem zd_Limits_insert_52 : decode prog_5_method_3_code 52 = .ok (.if_icmp .le 23, 3) := by decide +kernel
theorem zd_Limits_insert_55 : decode prog_5_method_3_code 55 = .ok (.aload_n 0, 1) := by decide +kernel
theorem zd_Limits_insert_56 : decode prog_5_method_3_code 56 = .ok (.getfield 9, 3) := by decide +kernel
theorem zd_Limits_insert_59 : decode prog_5_method_3_code 59 = .ok (.iload_n 3, 1) := by decide +kernel
theorem zd_Limits_insert_60 : decode prog_5_method_3_code 60 = .ok (.aload_n 0, 1) := by decide +kernel
theorem zd_Limits_insert_61 : decode prog_5_method_3_code 61 = .ok (.getfield 9, 3) := by decide +kernel
theorem zd_Limits_insert_64 : decode prog_5_method_3_code 64 = .ok (.iload_n 3, 1) := by decide +kernel
theorem zd_Limits_insert_65 : decode prog_5_method_3_code 65 = .ok (.iconst 1, 1) := by decide +kernel
theorem zd_Limits_insert_66 : decode prog_5_method_3_code 66 = .ok (.isub, 1) := by decide +kernel
theorem zd_Limits_insert_67 : decode prog_5_method_3_code 67 = .ok (.iaload, 1) := by decide +kernel
theorem zd_Limits_insert_68 : decode prog_5_method_3_code 68 = .ok (.iastore, 1) := by decide +kernel
theorem zd_Limits_insert_69 : decode prog_5_method_3_code 69 = .ok (.iinc 3 (-1), 3) := by decide +kernel
theorem zd_Limits_insert_72 : decode prog_5_method_3_code 72 = .ok (.goto (-22), 3) := by decide +kernel
theorem zd_Limits_insert_75 : decode prog_5_method_3_code 75 = .ok (.aload_n 0, 1) := by decide +kernel
theorem zd_Limits_insert_76 : decode prog_5_method_3_code 76 = .ok (.getfield 9, 3) := by decide +kernel
theorem zd_Limits_insert_79 : decode prog_5_method_3_code 79 = .ok (.iload_n 2, 1) := by decide +kernel
theorem zd_Limits_insert_80 : decode prog_5_method_3_code 80 = .ok (.iload_n 1, 1) := by decide +kernel
theorem zd_Limits_insert_81 : decode prog_5_method_3_code 81 = .ok (.iastore, 1) := by decide +kernel
theorem zd_Limits_insert_82 : decode prog_5_method_3_code 82 = .ok (.aload_n 0, 1) := by decide +kernel
theorem zd_Limits_insert_83 : decode prog_5_method_3_code 83 = .ok (.dup, 1) := by decide +kernel
theorem zd_Limits_insert_84 : decode prog_5_method_3_code 84 = .ok (.getfield 15, 3) := by decide +kernel
theorem zd_Limits_insert_87 : decode prog_5_method_3_code 87 = .ok (.iconst 1, 1) := by decide +kernel
theorem zd_Limits_insert_88 : decode prog_5_method_3_code 88 = .ok (.iadd, 1) := by decide +kernel
theorem zd_Limits_insert_89 : decode prog_5_method_3_code 89 = .ok (.putfield 15, 3) := by decide +kernel
theorem zd_Limits_insert_92 : decode prog_5_method_3_code 92 = .ok (.return_, 1) := by decide +kernel
def zm_Limits_count : zg_M := (⟨"SurrogateTree$Limits", "count", "()I"⟩, prog_5_method_4_code, 1, (some .int))
theorem zd_Limits_count_0 : decode prog_5_method_4_code 0 = .ok (.iconst 0, 1) := by decide +kernel
theorem zd_Limits_count_1 : decode prog_5_method_4_code 1 = .ok (.aload_n 0, 1) := by decide +kernel
theorem zd_Limits_count_2 : decode prog_5_method_4_code 2 = .ok (.getfield 15, 3) := by decide +kernel
theorem zd_Limits_count_5 : decode prog_5_method_4_code 5 = .ok (.iconst 1, 1) := by decide +kernel
theorem zd_Limits_count_6 : decode prog_5_method_4_code 6 = .ok (.isub, 1) := by decide +kernel
theorem zd_Limits_count_7 : decode prog_5_method_4_code 7 = .ok (.invokestatic 36, 3) := by decide +kernel
theorem zd_Limits_count_10 : decode prog_5_method_4_code 10 = .ok (.ireturn, 1) := by decide +kernel
def zm_Limits_at : zg_M := (⟨"SurrogateTree$Limits", "at", "(I)I"⟩, prog_5_method_5_code, 2, (some .int))
theorem zd_Limits_at_0 : decode prog_5_method_5_code 0 = .ok (.aload_n 0, 1) := by decide +kernel
theorem zd_Limits_at_1 : decode prog_5_method_5_code 1 = .ok (.getfield 9, 3) := by decide +kernel
theorem zd_Limits_at_4 : decode prog_5_method_5_code 4 = .ok (.iload_n 1, 1) := by decide +kernel
theorem zd_Limits_at_5 : decode prog_5_method_5_code 5 = .ok (.iaload, 1) := by decide +kernel
theorem zd_Limits_at_6 : decode prog_5_method_5_code 6 = .ok (.i2l, 1) := by decide +kernel
theorem zd_Limits_at_7 : decode prog_5_method_5_code 7 = .ok (.aload_n 0, 1) := by decide +kernel
theorem zd_Limits_at_8 : decode prog_5_method_5_code 8 = .ok (.getfield 9, 3) := by decide +kernel
theorem zd_Limits_at_11 : decode prog_5_method_5_code 11 = .ok (.iload_n 1, 1) := by decide +kernel
theorem zd_Limits_at_12 : decode prog_5_method_5_code 12 = .ok (.iconst 1, 1) := by decide +kernel
theorem zd_Limits_at_13 : decode prog_5_method_5_code 13 = .ok (.iadd, 1) := by decide +kernel
theorem zd_Limits_at_14 : decode prog_5_method_5_code 14 = .ok (.iaload, 1) := by decide +kernel
theorem zd_Limits_at_15 : decode prog_5_method_5_code 15 = .ok (.i2l, 1) := by decide +kernel
theorem zd_Limits_at_16 : decode prog_5_method_5_code 16 = .ok (.ladd, 1) := by decide +kernel
theorem zd_Limits_at_17 : decode prog_5_method_5_code 17 = .ok (.ldc2_w 42, 3) := by decide +kernel
theorem zd_Limits_at_20 : decode prog_5_method_5_code 20 = .ok (.invokestatic 44, 3) := by decide +kernel
theorem zd_Limits_at_23 : decode prog_5_method_5_code 23 = .ok (.l2i, 1) := by decide +kernel
theorem zd_Limits_at_24 : decode prog_5_method_5_code 24 = .ok (.ireturn, 1) := by decide +kernel
def zm_Table_rowsUpTo : zg_M := (⟨"SurrogateTree$Table", "rowsUpTo", "(III)I"⟩, prog_11_method_11_code, 6, (some .int))
theorem zd_Table_rowsUpTo_0 : decode prog_11_method_11_code 0 = .ok (.iconst 0, 1) := by decide +kernel
theorem zd_Table_rowsUpTo_1 : decode prog_11_method_11_code 1 = .ok (.istore 4, 2) := by decide +kernel
theorem zd_Table_rowsUpTo_3 : decode prog_11_method_11_code 3 = .ok (.iconst 0, 1) := by decide +kernel
theorem zd_Table_rowsUpTo_4 : decode prog_11_method_11_code 4 = .ok (.istore 5, 2) := by decide +kernel
theorem zd_Table_rowsUpTo_6 : decode prog_11_method_11_code 6 = .ok (.iload 5, 2) := by decide +kernel
theorem zd_Table_rowsUpTo_8 : decode prog_11_method_11_code 8 = .ok (.aload_n 0, 1) := by decide +kernel
theorem zd_Table_rowsUpTo_9 : decode prog_11_method_11_code 9 = .ok (.getfield 23, 3) := by decide +kernel
theorem zd_Table_rowsUpTo_12 : decode prog_11_method_11_code 12 = .ok (.if_icmp .ge 40, 3) := by decide +kernel
theorem zd_Table_rowsUpTo_15 : decode prog_11_method_11_code 15 = .ok (.iload_n 1, 1) := by decide +kernel
theorem zd_Table_rowsUpTo_16 : decode prog_11_method_11_code 16 = .ok (.iload 5, 2) := by decide +kernel
theorem zd_Table_rowsUpTo_18 : decode prog_11_method_11_code 18 = .ok (.invokestatic 39, 3) := by decide +kernel
theorem zd_Table_rowsUpTo_21 : decode prog_11_method_11_code 21 = .ok (.ifCond .eq 25, 3) := by decide +kernel
theorem zd_Table_rowsUpTo_24 : decode prog_11_method_11_code 24 = .ok (.aload_n 0, 1) := by decide +kernel
theorem zd_Table_rowsUpTo_25 : decode prog_11_method_11_code 25 = .ok (.getfield 11, 3) := by decide +kernel
theorem zd_Table_rowsUpTo_28 : decode prog_11_method_11_code 28 = .ok (.iload 5, 2) := by decide +kernel
theorem zd_Table_rowsUpTo_30 : decode prog_11_method_11_code 30 = .ok (.aaload, 1) := by decide +kernel
theorem zd_Table_rowsUpTo_31 : decode prog_11_method_11_code 31 = .ok (.iload_n 2, 1) := by decide +kernel
theorem zd_Table_rowsUpTo_32 : decode prog_11_method_11_code 32 = .ok (.iaload, 1) := by decide +kernel
theorem zd_Table_rowsUpTo_33 : decode prog_11_method_11_code 33 = .ok (.iload_n 3, 1) := by decide +kernel
theorem zd_Table_rowsUpTo_34 : decode prog_11_method_11_code 34 = .ok (.if_icmp .gt 12, 3) := by decide +kernel
theorem zd_Table_rowsUpTo_37 : decode prog_11_method_11_code 37 = .ok (.iload 4, 2) := by decide +kernel
theorem zd_Table_rowsUpTo_39 : decode prog_11_method_11_code 39 = .ok (.iconst 1, 1) := by decide +kernel
theorem zd_Table_rowsUpTo_40 : decode prog_11_method_11_code 40 = .ok (.iload 5, 2) := by decide +kernel
theorem zd_Table_rowsUpTo_42 : decode prog_11_method_11_code 42 = .ok (.ishl, 1) := by decide +kernel
theorem zd_Table_rowsUpTo_43 : decode prog_11_method_11_code 43 = .ok (.ior, 1) := by decide +kernel
theorem zd_Table_rowsUpTo_44 : decode prog_11_method_11_code 44 = .ok (.istore 4, 2) := by decide +kernel
theorem zd_Table_rowsUpTo_46 : decode prog_11_method_11_code 46 = .ok (.iinc 5 1, 3) := by decide +kernel
theorem zd_Table_rowsUpTo_49 : decode prog_11_method_11_code 49 = .ok (.goto (-43), 3) := by decide +kernel
theorem zd_Table_rowsUpTo_52 : decode prog_11_method_11_code 52 = .ok (.iload 4, 2) := by decide +kernel
theorem zd_Table_rowsUpTo_54 : decode prog_11_method_11_code 54 = .ok (.ireturn, 1) := by decide +kernel
def zm_Fraction_isMoreThan : zg_M := (⟨"SurrogateTree$Fraction", "isMoreThan", "(LSurrogateTree$Fraction;)Z"⟩, prog_4_method_4_code, 2, (some .boolean))
theorem zd_Fraction_isMoreThan_0 : decode prog_4_method_4_code 0 = .ok (.aload_n 0, 1) := by decide +kernel
theorem zd_Fraction_isMoreThan_1 : decode prog_4_method_4_code 1 = .ok (.getfield 7, 3) := by decide +kernel
theorem zd_Fraction_isMoreThan_4 : decode prog_4_method_4_code 4 = .ok (.aload_n 1, 1) := by decide +kernel
theorem zd_Fraction_isMoreThan_5 : decode prog_4_method_4_code 5 = .ok (.getfield 13, 3) := by decide +kernel
theorem zd_Fraction_isMoreThan_8 : decode prog_4_method_4_code 8 = .ok (.lmul, 1) := by decide +kernel
theorem zd_Fraction_isMoreThan_9 : decode prog_4_method_4_code 9 = .ok (.aload_n 1, 1) := by decide +kernel
theorem zd_Fraction_isMoreThan_10 : decode prog_4_method_4_code 10 = .ok (.getfield 7, 3) := by decide +kernel
theorem zd_Fraction_isMoreThan_13 : decode prog_4_method_4_code 13 = .ok (.aload_n 0, 1) := by decide +kernel
theorem zd_Fraction_isMoreThan_14 : decode prog_4_method_4_code 14 = .ok (.getfield 13, 3) := by decide +kernel
theorem zd_Fraction_isMoreThan_17 : decode prog_4_method_4_code 17 = .ok (.lmul, 1) := by decide +kernel
theorem zd_Fraction_isMoreThan_18 : decode prog_4_method_4_code 18 = .ok (.lcmp, 1) := by decide +kernel
theorem zd_Fraction_isMoreThan_19 : decode prog_4_method_4_code 19 = .ok (.ifCond .le 7, 3) := by decide +kernel
theorem zd_Fraction_isMoreThan_22 : decode prog_4_method_4_code 22 = .ok (.iconst 1, 1) := by decide +kernel
theorem zd_Fraction_isMoreThan_23 : decode prog_4_method_4_code 23 = .ok (.goto 4, 3) := by decide +kernel
theorem zd_Fraction_isMoreThan_26 : decode prog_4_method_4_code 26 = .ok (.iconst 0, 1) := by decide +kernel
theorem zd_Fraction_isMoreThan_27 : decode prog_4_method_4_code 27 = .ok (.ireturn, 1) := by decide +kernel
def zm_Fraction_copyFrom : zg_M := (⟨"SurrogateTree$Fraction", "copyFrom", "(LSurrogateTree$Fraction;)V"⟩, prog_4_method_3_code, 2, none)
theorem zd_Fraction_copyFrom_0 : decode prog_4_method_3_code 0 = .ok (.aload_n 0, 1) := by decide +kernel
theorem zd_Fraction_copyFrom_1 : decode prog_4_method_3_code 1 = .ok (.aload_n 1, 1) := by decide +kernel
theorem zd_Fraction_copyFrom_2 : decode prog_4_method_3_code 2 = .ok (.getfield 7, 3) := by decide +kernel
theorem zd_Fraction_copyFrom_5 : decode prog_4_method_3_code 5 = .ok (.putfield 7, 3) := by decide +kernel
theorem zd_Fraction_copyFrom_8 : decode prog_4_method_3_code 8 = .ok (.aload_n 0, 1) := by decide +kernel
theorem zd_Fraction_copyFrom_9 : decode prog_4_method_3_code 9 = .ok (.aload_n 1, 1) := by decide +kernel
theorem zd_Fraction_copyFrom_10 : decode prog_4_method_3_code 10 = .ok (.getfield 13, 3) := by decide +kernel
theorem zd_Fraction_copyFrom_13 : decode prog_4_method_3_code 13 = .ok (.putfield 13, 3) := by decide +kernel
theorem zd_Fraction_copyFrom_16 : decode prog_4_method_3_code 16 = .ok (.return_, 1) := by decide +kernel
def zm_Node_addStandIn : zg_M := (⟨"SurrogateTree$Node", "addStandIn", "(LSurrogateTree$StandIn;)V"⟩, prog_6_method_4_code, 3, none)
theorem zd_Node_addStandIn_0 : decode prog_6_method_4_code 0 = .ok (.aload_n 0, 1) := by decide +kernel
theorem zd_Node_addStandIn_1 : decode prog_6_method_4_code 1 = .ok (.getfield 45, 3) := by decide +kernel
theorem zd_Node_addStandIn_4 : decode prog_6_method_4_code 4 = .ok (.istore_n 2, 1) := by decide +kernel
theorem zd_Node_addStandIn_5 : decode prog_6_method_4_code 5 = .ok (.iload_n 2, 1) := by decide +kernel
theorem zd_Node_addStandIn_6 : decode prog_6_method_4_code 6 = .ok (.iconst 1, 1) := by decide +kernel
theorem zd_Node_addStandIn_7 : decode prog_6_method_4_code 7 = .ok (.if_icmp .ne 36, 3) := by decide +kernel
theorem zd_Node_addStandIn_10 : decode prog_6_method_4_code 10 = .ok (.aload_n 1, 1) := by decide +kernel
theorem zd_Node_addStandIn_11 : decode prog_6_method_4_code 11 = .ok (.getfield 48, 3) := by decide +kernel
theorem zd_Node_addStandIn_14 : decode prog_6_method_4_code 14 = .ok (.aload_n 0, 1) := by decide +kernel
theorem zd_Node_addStandIn_15 : decode prog_6_method_4_code 15 = .ok (.getfield 20, 3) := by decide +kernel
theorem zd_Node_addStandIn_18 : decode prog_6_method_4_code 18 = .ok (.iconst 0, 1) := by decide +kernel
theorem zd_Node_addStandIn_19 : decode prog_6_method_4_code 19 = .ok (.aaload, 1) := by decide +kernel
theorem zd_Node_addStandIn_20 : decode prog_6_method_4_code 20 = .ok (.getfield 48, 3) := by decide +kernel
theorem zd_Node_addStandIn_23 : decode prog_6_method_4_code 23 = .ok (.if_icmp .le 20, 3) := by decide +kernel
theorem zd_Node_addStandIn_26 : decode prog_6_method_4_code 26 = .ok (.aload_n 0, 1) := by decide +kernel
theorem zd_Node_addStandIn_27 : decode prog_6_method_4_code 27 = .ok (.getfield 20, 3) := by decide +kernel
theorem zd_Node_addStandIn_30 : decode prog_6_method_4_code 30 = .ok (.iconst 1, 1) := by decide +kernel
theorem zd_Node_addStandIn_31 : decode prog_6_method_4_code 31 = .ok (.aaload, 1) := by decide +kernel
theorem zd_Node_addStandIn_32 : decode prog_6_method_4_code 32 = .ok (.aload_n 0, 1) := by decide +kernel
theorem zd_Node_addStandIn_33 : decode prog_6_method_4_code 33 = .ok (.getfield 20, 3) := by decide +kernel
theorem zd_Node_addStandIn_36 : decode prog_6_method_4_code 36 = .ok (.iconst 0, 1) := by decide +kernel
theorem zd_Node_addStandIn_37 : decode prog_6_method_4_code 37 = .ok (.aaload, 1) := by decide +kernel
theorem zd_Node_addStandIn_38 : decode prog_6_method_4_code 38 = .ok (.invokevirtual 51, 3) := by decide +kernel
theorem zd_Node_addStandIn_41 : decode prog_6_method_4_code 41 = .ok (.iconst 0, 1) := by decide +kernel
theorem zd_Node_addStandIn_42 : decode prog_6_method_4_code 42 = .ok (.istore_n 2, 1) := by decide +kernel
theorem zd_Node_addStandIn_43 : decode prog_6_method_4_code 43 = .ok (.aload_n 0, 1) := by decide +kernel
theorem zd_Node_addStandIn_44 : decode prog_6_method_4_code 44 = .ok (.getfield 20, 3) := by decide +kernel
theorem zd_Node_addStandIn_47 : decode prog_6_method_4_code 47 = .ok (.iload_n 2, 1) := by decide +kernel
theorem zd_Node_addStandIn_48 : decode prog_6_method_4_code 48 = .ok (.aaload, 1) := by decide +kernel
theorem zd_Node_addStandIn_49 : decode prog_6_method_4_code 49 = .ok (.aload_n 1, 1) := by decide +kernel
theorem zd_Node_addStandIn_50 : decode prog_6_method_4_code 50 = .ok (.invokevirtual 51, 3) := by decide +kernel
theorem zd_Node_addStandIn_53 : decode prog_6_method_4_code 53 = .ok (.aload_n 0, 1) := by decide +kernel
theorem zd_Node_addStandIn_54 : decode prog_6_method_4_code 54 = .ok (.dup, 1) := by decide +kernel
theorem zd_Node_addStandIn_55 : decode prog_6_method_4_code 55 = .ok (.getfield 45, 3) := by decide +kernel
theorem zd_Node_addStandIn_58 : decode prog_6_method_4_code 58 = .ok (.iconst 1, 1) := by decide +kernel
theorem zd_Node_addStandIn_59 : decode prog_6_method_4_code 59 = .ok (.iadd, 1) := by decide +kernel
theorem zd_Node_addStandIn_60 : decode prog_6_method_4_code 60 = .ok (.putfield 45, 3) := by decide +kernel
theorem zd_Node_addStandIn_63 : decode prog_6_method_4_code 63 = .ok (.return_, 1) := by decide +kernel
def zm_StandIn_copyFrom : zg_M := (⟨"SurrogateTree$StandIn", "copyFrom", "(LSurrogateTree$StandIn;)V"⟩, prog_9_method_2_code, 2, none)
theorem zd_StandIn_copyFrom_0 : decode prog_9_method_2_code 0 = .ok (.aload_n 0, 1) := by decide +kernel
theorem zd_StandIn_copyFrom_1 : decode prog_9_method_2_code 1 = .ok (.aload_n 1, 1) := by decide +kernel
theorem zd_StandIn_copyFrom_2 : decode prog_9_method_2_code 2 = .ok (.getfield 7, 3) := by decide +kernel
theorem zd_StandIn_copyFrom_5 : decode prog_9_method_2_code 5 = .ok (.putfield 7, 3) := by decide +kernel
theorem zd_StandIn_copyFrom_8 : decode prog_9_method_2_code 8 = .ok (.aload_n 0, 1) := by decide +kernel
theorem zd_StandIn_copyFrom_9 : decode prog_9_method_2_code 9 = .ok (.aload_n 1, 1) := by decide +kernel
theorem zd_StandIn_copyFrom_10 : decode prog_9_method_2_code 10 = .ok (.getfield 13, 3) := by decide +kernel
theorem zd_StandIn_copyFrom_13 : decode prog_9_method_2_code 13 = .ok (.putfield 13, 3) := by decide +kernel
theorem zd_StandIn_copyFrom_16 : decode prog_9_method_2_code 16 = .ok (.aload_n 0, 1) := by decide +kernel
theorem zd_StandIn_copyFrom_17 : decode prog_9_method_2_code 17 = .ok (.aload_n 1, 1) := by decide +kernel
theorem zd_StandIn_copyFrom_18 : decode prog_9_method_2_code 18 = .ok (.getfield 16, 3) := by decide +kernel
theorem zd_StandIn_copyFrom_21 : decode prog_9_method_2_code 21 = .ok (.putfield 16, 3) := by decide +kernel
theorem zd_StandIn_copyFrom_24 : decode prog_9_method_2_code 24 = .ok (.aload_n 0, 1) := by decide +kernel
theorem zd_StandIn_copyFrom_25 : decode prog_9_method_2_code 25 = .ok (.aload_n 1, 1) := by decide +kernel
theorem zd_StandIn_copyFrom_26 : decode prog_9_method_2_code 26 = .ok (.getfield 20, 3) := by decide +kernel
theorem zd_StandIn_copyFrom_29 : decode prog_9_method_2_code 29 = .ok (.putfield 20, 3) := by decide +kernel
theorem zd_StandIn_copyFrom_32 : decode prog_9_method_2_code 32 = .ok (.return_, 1) := by decide +kernel
def zm_Node_rowsGoingLeft : zg_M := (⟨"SurrogateTree$Node", "rowsGoingLeft", "(LSurrogateTree$Table;)I"⟩, prog_6_method_6_code, 4, (some .int))
theorem zd_Node_rowsGoingLeft_0 : decode prog_6_method_6_code 0 = .ok (.iconst 0, 1) := by decide +kernel
theorem zd_Node_rowsGoingLeft_1 : decode prog_6_method_6_code 1 = .ok (.istore_n 2, 1) := by decide +kernel
theorem zd_Node_rowsGoingLeft_2 : decode prog_6_method_6_code 2 = .ok (.iconst 0, 1) := by decide +kernel
theorem zd_Node_rowsGoingLeft_3 : decode prog_6_method_6_code 3 = .ok (.istore_n 3, 1) := by decide +kernel
theorem zd_Node_rowsGoingLeft_4 : decode prog_6_method_6_code 4 = .ok (.iload_n 3, 1) := by decide +kernel
theorem zd_Node_rowsGoingLeft_5 : decode prog_6_method_6_code 5 = .ok (.aload_n 1, 1) := by decide +kernel
theorem zd_Node_rowsGoingLeft_6 : decode prog_6_method_6_code 6 = .ok (.getfield 71, 3) := by decide +kernel
theorem zd_Node_rowsGoingLeft_9 : decode prog_6_method_6_code 9 = .ok (.if_icmp .ge 39, 3) := by decide +kernel
theorem zd_Node_rowsGoingLeft_12 : decode prog_6_method_6_code 12 = .ok (.aload_n 0, 1) := by decide +kernel
theorem zd_Node_rowsGoingLeft_13 : decode prog_6_method_6_code 13 = .ok (.getfield 25, 3) := by decide +kernel
theorem zd_Node_rowsGoingLeft_16 : decode prog_6_method_6_code 16 = .ok (.iload_n 3, 1) := by decide +kernel
theorem zd_Node_rowsGoingLeft_17 : decode prog_6_method_6_code 17 = .ok (.invokestatic 74, 3) := by decide +kernel
theorem zd_Node_rowsGoingLeft_20 : decode prog_6_method_6_code 20 = .ok (.ifCond .eq 22, 3) := by decide +kernel
theorem zd_Node_rowsGoingLeft_23 : decode prog_6_method_6_code 23 = .ok (.aload_n 0, 1) := by decide +kernel
theorem zd_Node_rowsGoingLeft_24 : decode prog_6_method_6_code 24 = .ok (.aload_n 1, 1) := by decide +kernel
theorem zd_Node_rowsGoingLeft_25 : decode prog_6_method_6_code 25 = .ok (.getfield 78, 3) := by decide +kernel
theorem zd_Node_rowsGoingLeft_28 : decode prog_6_method_6_code 28 = .ok (.iload_n 3, 1) := by decide +kernel
theorem zd_Node_rowsGoingLeft_29 : decode prog_6_method_6_code 29 = .ok (.aaload, 1) := by decide +kernel
theorem zd_Node_rowsGoingLeft_30 : decode prog_6_method_6_code 30 = .ok (.invokevirtual 82, 3) := by decide +kernel
theorem zd_Node_rowsGoingLeft_33 : decode prog_6_method_6_code 33 = .ok (.ifCond .eq 9, 3) := by decide +kernel
theorem zd_Node_rowsGoingLeft_36 : decode prog_6_method_6_code 36 = .ok (.iload_n 2, 1) := by decide +kernel
theorem zd_Node_rowsGoingLeft_37 : decode prog_6_method_6_code 37 = .ok (.iconst 1, 1) := by decide +kernel
theorem zd_Node_rowsGoingLeft_38 : decode prog_6_method_6_code 38 = .ok (.iload_n 3, 1) := by decide +kernel
theorem zd_Node_rowsGoingLeft_39 : decode prog_6_method_6_code 39 = .ok (.ishl, 1) := by decide +kernel
theorem zd_Node_rowsGoingLeft_40 : decode prog_6_method_6_code 40 = .ok (.ior, 1) := by decide +kernel
theorem zd_Node_rowsGoingLeft_41 : decode prog_6_method_6_code 41 = .ok (.istore_n 2, 1) := by decide +kernel
theorem zd_Node_rowsGoingLeft_42 : decode prog_6_method_6_code 42 = .ok (.iinc 3 1, 3) := by decide +kernel
theorem zd_Node_rowsGoingLeft_45 : decode prog_6_method_6_code 45 = .ok (.goto (-41), 3) := by decide +kernel
theorem zd_Node_rowsGoingLeft_48 : decode prog_6_method_6_code 48 = .ok (.iload_n 2, 1) := by decide +kernel
theorem zd_Node_rowsGoingLeft_49 : decode prog_6_method_6_code 49 = .ok (.ireturn, 1) := by decide +kernel
def zm_Node_sendsLeft : zg_M := (⟨"SurrogateTree$Node", "sendsLeft", "([I)Z"⟩, prog_6_method_5_code, 4, (some .boolean))
theorem zd_Node_sendsLeft_0 : decode prog_6_method_5_code 0 = .ok (.aload_n 1, 1) := by decide +kernel
theorem zd_Node_sendsLeft_1 : decode prog_6_method_5_code 1 = .ok (.aload_n 0, 1) := by decide +kernel
theorem zd_Node_sendsLeft_2 : decode prog_6_method_5_code 2 = .ok (.getfield 55, 3) := by decide +kernel
theorem zd_Node_sendsLeft_5 : decode prog_6_method_5_code 5 = .ok (.iaload, 1) := by decide +kernel
theorem zd_Node_sendsLeft_6 : decode prog_6_method_5_code 6 = .ok (.ldc 58, 2) := by decide +kernel
theorem zd_Node_sendsLeft_8 : decode prog_6_method_5_code 8 = .ok (.if_icmp .eq 22, 3) := by decide +kernel
theorem zd_Node_sendsLeft_11 : decode prog_6_method_5_code 11 = .ok (.aload_n 1, 1) := by decide +kernel
theorem zd_Node_sendsLeft_12 : decode prog_6_method_5_code 12 = .ok (.aload_n 0, 1) := by decide +kernel
theorem zd_Node_sendsLeft_13 : decode prog_6_method_5_code 13 = .ok (.getfield 55, 3) := by decide +kernel
theorem zd_Node_sendsLeft_16 : decode prog_6_method_5_code 16 = .ok (.iaload, 1) := by decide +kernel
theorem zd_Node_sendsLeft_17 : decode prog_6_method_5_code 17 = .ok (.aload_n 0, 1) := by decide +kernel
theorem zd_Node_sendsLeft_18 : decode prog_6_method_5_code 18 = .ok (.getfield 59, 3) := by decide +kernel
theorem zd_Node_sendsLeft_21 : decode prog_6_method_5_code 21 = .ok (.if_icmp .gt 7, 3) := by decide +kernel
theorem zd_Node_sendsLeft_24 : decode prog_6_method_5_code 24 = .ok (.iconst 1, 1) := by decide +kernel
theorem zd_Node_sendsLeft_25 : decode prog_6_method_5_code 25 = .ok (.goto 4, 3) := by decide +kernel
theorem zd_Node_sendsLeft_28 : decode prog_6_method_5_code 28 = .ok (.iconst 0, 1) := by decide +kernel
theorem zd_Node_sendsLeft_29 : decode prog_6_method_5_code 29 = .ok (.ireturn, 1) := by decide +kernel
theorem zd_Node_sendsLeft_30 : decode prog_6_method_5_code 30 = .ok (.iconst 0, 1) := by decide +kernel
theorem zd_Node_sendsLeft_31 : decode prog_6_method_5_code 31 = .ok (.istore_n 2, 1) := by decide +kernel
theorem zd_Node_sendsLeft_32 : decode prog_6_method_5_code 32 = .ok (.iload_n 2, 1) := by decide +kernel
theorem zd_Node_sendsLeft_33 : decode prog_6_method_5_code 33 = .ok (.aload_n 0, 1) := by decide +kernel
theorem zd_Node_sendsLeft_34 : decode prog_6_method_5_code 34 = .ok (.getfield 45, 3) := by decide +kernel
theorem zd_Node_sendsLeft_37 : decode prog_6_method_5_code 37 = .ok (.if_icmp .ge 38, 3) := by decide +kernel
theorem zd_Node_sendsLeft_40 : decode prog_6_method_5_code 40 = .ok (.aload_n 1, 1) := by decide +kernel
theorem zd_Node_sendsLeft_41 : decode prog_6_method_5_code 41 = .ok (.aload_n 0, 1) := by decide +kernel
theorem zd_Node_sendsLeft_42 : decode prog_6_method_5_code 42 = .ok (.getfield 20, 3) := by decide +kernel
theorem zd_Node_sendsLeft_45 : decode prog_6_method_5_code 45 = .ok (.iload_n 2, 1) := by decide +kernel
theorem zd_Node_sendsLeft_46 : decode prog_6_method_5_code 46 = .ok (.aaload, 1) := by decide +kernel
theorem zd_Node_sendsLeft_47 : decode prog_6_method_5_code 47 = .ok (.getfield 62, 3) := by decide +kernel
theorem zd_Node_sendsLeft_50 : decode prog_6_method_5_code 50 = .ok (.iaload, 1) := by decide +kernel
theorem zd_Node_sendsLeft_51 : decode prog_6_method_5_code 51 = .ok (.istore_n 3, 1) := by decide +kernel
theorem zd_Node_sendsLeft_52 : decode prog_6_method_5_code 52 = .ok (.iload_n 3, 1) := by decide +kernel
theorem zd_Node_sendsLeft_53 : decode prog_6_method_5_code 53 = .ok (.ldc 58, 2) := by decide +kernel
theorem zd_Node_sendsLeft_55 : decode prog_6_method_5_code 55 = .ok (.if_icmp .eq 14, 3) := by decide +kernel
theorem zd_Node_sendsLeft_58 : decode prog_6_method_5_code 58 = .ok (.aload_n 0, 1) := by decide +kernel
theorem zd_Node_sendsLeft_59 : decode prog_6_method_5_code 59 = .ok (.getfield 20, 3) := by decide +kernel
theorem zd_Node_sendsLeft_62 : decode prog_6_method_5_code 62 = .ok (.iload_n 2, 1) := by decide +kernel
theorem zd_Node_sendsLeft_63 : decode prog_6_method_5_code 63 = .ok (.aaload, 1) := by decide +kernel
theorem zd_Node_sendsLeft_64 : decode prog_6_method_5_code 64 = .ok (.iload_n 3, 1) := by decide +kernel
theorem zd_Node_sendsLeft_65 : decode prog_6_method_5_code 65 = .ok (.invokevirtual 63, 3) := by decide +kernel
theorem zd_Node_sendsLeft_68 : decode prog_6_method_5_code 68 = .ok (.ireturn, 1) := by decide +kernel
theorem zd_Node_sendsLeft_69 : decode prog_6_method_5_code 69 = .ok (.iinc 2 1, 3) := by decide +kernel
theorem zd_Node_sendsLeft_72 : decode prog_6_method_5_code 72 = .ok (.goto (-40), 3) := by decide +kernel
theorem zd_Node_sendsLeft_75 : decode prog_6_method_5_code 75 = .ok (.aload_n 0, 1) := by decide +kernel
theorem zd_Node_sendsLeft_76 : decode prog_6_method_5_code 76 = .ok (.getfield 67, 3) := by decide +kernel
theorem zd_Node_sendsLeft_79 : decode prog_6_method_5_code 79 = .ok (.ireturn, 1) := by decide +kernel
def zm_StandIn_sendsLeft : zg_M := (⟨"SurrogateTree$StandIn", "sendsLeft", "(I)Z"⟩, prog_9_method_3_code, 2, (some .boolean))
theorem zd_StandIn_sendsLeft_0 : decode prog_9_method_3_code 0 = .ok (.iload_n 1, 1) := by decide +kernel
theorem zd_StandIn_sendsLeft_1 : decode prog_9_method_3_code 1 = .ok (.aload_n 0, 1) := by decide +kernel
theorem zd_StandIn_sendsLeft_2 : decode prog_9_method_3_code 2 = .ok (.getfield 13, 3) := by decide +kernel
theorem zd_StandIn_sendsLeft_5 : decode prog_9_method_3_code 5 = .ok (.if_icmp .gt 7, 3) := by decide +kernel
theorem zd_StandIn_sendsLeft_8 : decode prog_9_method_3_code 8 = .ok (.iconst 1, 1) := by decide +kernel
theorem zd_StandIn_sendsLeft_9 : decode prog_9_method_3_code 9 = .ok (.goto 4, 3) := by decide +kernel
theorem zd_StandIn_sendsLeft_12 : decode prog_9_method_3_code 12 = .ok (.iconst 0, 1) := by decide +kernel
theorem zd_StandIn_sendsLeft_13 : decode prog_9_method_3_code 13 = .ok (.aload_n 0, 1) := by decide +kernel
theorem zd_StandIn_sendsLeft_14 : decode prog_9_method_3_code 14 = .ok (.getfield 16, 3) := by decide +kernel
theorem zd_StandIn_sendsLeft_17 : decode prog_9_method_3_code 17 = .ok (.if_icmp .eq 7, 3) := by decide +kernel
theorem zd_StandIn_sendsLeft_20 : decode prog_9_method_3_code 20 = .ok (.iconst 1, 1) := by decide +kernel
theorem zd_StandIn_sendsLeft_21 : decode prog_9_method_3_code 21 = .ok (.goto 4, 3) := by decide +kernel
theorem zd_StandIn_sendsLeft_24 : decode prog_9_method_3_code 24 = .ok (.iconst 0, 1) := by decide +kernel
theorem zd_StandIn_sendsLeft_25 : decode prog_9_method_3_code 25 = .ok (.ireturn, 1) := by decide +kernel
def zm_Shape_at : zg_M := (⟨"SurrogateTree$Shape", "at", "(I)I"⟩, prog_7_method_3_code, 2, (some .int))
theorem zd_Shape_at_0 : decode prog_7_method_3_code 0 = .ok (.iload_n 1, 1) := by decide +kernel
theorem zd_Shape_at_1 : decode prog_7_method_3_code 1 = .ok (.iconst 1, 1) := by decide +kernel
theorem zd_Shape_at_2 : decode prog_7_method_3_code 2 = .ok (.if_icmp .lt 18, 3) := by decide +kernel
theorem zd_Shape_at_5 : decode prog_7_method_3_code 5 = .ok (.iload_n 1, 1) := by decide +kernel
theorem zd_Shape_at_6 : decode prog_7_method_3_code 6 = .ok (.bipush 32, 2) := by decide +kernel
theorem zd_Shape_at_8 : decode prog_7_method_3_code 8 = .ok (.if_icmp .ge 12, 3) := by decide +kernel
theorem zd_Shape_at_11 : decode prog_7_method_3_code 11 = .ok (.aload_n 0, 1) := by decide +kernel
theorem zd_Shape_at_12 : decode prog_7_method_3_code 12 = .ok (.getfield 9, 3) := by decide +kernel
theorem zd_Shape_at_15 : decode prog_7_method_3_code 15 = .ok (.iload_n 1, 1) := by decide +kernel
theorem zd_Shape_at_16 : decode prog_7_method_3_code 16 = .ok (.iaload, 1) := by decide +kernel
theorem zd_Shape_at_17 : decode prog_7_method_3_code 17 = .ok (.goto 4, 3) := by decide +kernel
theorem zd_Shape_at_20 : decode prog_7_method_3_code 20 = .ok (.iconst (-1), 1) := by decide +kernel
theorem zd_Shape_at_21 : decode prog_7_method_3_code 21 = .ok (.ireturn, 1) := by decide +kernel
def zm_Node_hasStandIn : zg_M := (⟨"SurrogateTree$Node", "hasStandIn", "(I)Z"⟩, prog_6_method_3_code, 2, (some .boolean))
theorem zd_Node_hasStandIn_0 : decode prog_6_method_3_code 0 = .ok (.iload_n 1, 1) := by decide +kernel
theorem zd_Node_hasStandIn_1 : decode prog_6_method_3_code 1 = .ok (.iconst 1, 1) := by decide +kernel
theorem zd_Node_hasStandIn_2 : decode prog_6_method_3_code 2 = .ok (.if_icmp .lt 15, 3) := by decide +kernel
theorem zd_Node_hasStandIn_5 : decode prog_6_method_3_code 5 = .ok (.iload_n 1, 1) := by decide +kernel
theorem zd_Node_hasStandIn_6 : decode prog_6_method_3_code 6 = .ok (.aload_n 0, 1) := by decide +kernel
theorem zd_Node_hasStandIn_7 : decode prog_6_method_3_code 7 = .ok (.getfield 45, 3) := by decide +kernel
theorem zd_Node_hasStandIn_10 : decode prog_6_method_3_code 10 = .ok (.if_icmp .gt 7, 3) := by decide +kernel
theorem zd_Node_hasStandIn_13 : decode prog_6_method_3_code 13 = .ok (.iconst 1, 1) := by decide +kernel
theorem zd_Node_hasStandIn_14 : decode prog_6_method_3_code 14 = .ok (.goto 4, 3) := by decide +kernel
theorem zd_Node_hasStandIn_17 : decode prog_6_method_3_code 17 = .ok (.iconst 0, 1) := by decide +kernel
theorem zd_Node_hasStandIn_18 : decode prog_6_method_3_code 18 = .ok (.ireturn, 1) := by decide +kernel
def zm_StandIn_code : zg_M := (⟨"SurrogateTree$StandIn", "code", "()I"⟩, prog_9_method_4_code, 1, (some .int))
theorem zd_StandIn_code_0 : decode prog_9_method_4_code 0 = .ok (.aload_n 0, 1) := by decide +kernel
theorem zd_StandIn_code_1 : decode prog_9_method_4_code 1 = .ok (.getfield 7, 3) := by decide +kernel
theorem zd_StandIn_code_4 : decode prog_9_method_4_code 4 = .ok (.aload_n 0, 1) := by decide +kernel
theorem zd_StandIn_code_5 : decode prog_9_method_4_code 5 = .ok (.getfield 16, 3) := by decide +kernel
theorem zd_StandIn_code_8 : decode prog_9_method_4_code 8 = .ok (.ifCond .eq 7, 3) := by decide +kernel
theorem zd_StandIn_code_11 : decode prog_9_method_4_code 11 = .ok (.iconst 4, 1) := by decide +kernel
theorem zd_StandIn_code_12 : decode prog_9_method_4_code 12 = .ok (.goto 4, 3) := by decide +kernel
theorem zd_StandIn_code_15 : decode prog_9_method_4_code 15 = .ok (.iconst 0, 1) := by decide +kernel
theorem zd_StandIn_code_16 : decode prog_9_method_4_code 16 = .ok (.iadd, 1) := by decide +kernel
theorem zd_StandIn_code_17 : decode prog_9_method_4_code 17 = .ok (.bipush 8, 2) := by decide +kernel
theorem zd_StandIn_code_19 : decode prog_9_method_4_code 19 = .ok (.aload_n 0, 1) := by decide +kernel
theorem zd_StandIn_code_20 : decode prog_9_method_4_code 20 = .ok (.getfield 20, 3) := by decide +kernel
theorem zd_StandIn_code_23 : decode prog_9_method_4_code 23 = .ok (.imul, 1) := by decide +kernel
theorem zd_StandIn_code_24 : decode prog_9_method_4_code 24 = .ok (.iadd, 1) := by decide +kernel
theorem zd_StandIn_code_25 : decode prog_9_method_4_code 25 = .ok (.ireturn, 1) := by decide +kernel
def zm_Shape_dropOrphans : zg_M := (⟨"SurrogateTree$Shape", "dropOrphans", "()V"⟩, prog_7_method_6_code, 2, none)
theorem zd_Shape_dropOrphans_0 : decode prog_7_method_6_code 0 = .ok (.iconst 2, 1) := by decide +kernel
theorem zd_Shape_dropOrphans_1 : decode prog_7_method_6_code 1 = .ok (.istore_n 1, 1) := by decide +kernel
theorem zd_Shape_dropOrphans_2 : decode prog_7_method_6_code 2 = .ok (.iload_n 1, 1) := by decide +kernel
theorem zd_Shape_dropOrphans_3 : decode prog_7_method_6_code 3 = .ok (.bipush 32, 2) := by decide +kernel
theorem zd_Shape_dropOrphans_5 : decode prog_7_method_6_code 5 = .ok (.if_icmp .ge 28, 3) := by decide +kernel
theorem zd_Shape_dropOrphans_8 : decode prog_7_method_6_code 8 = .ok (.aload_n 0, 1) := by decide +kernel
theorem zd_Shape_dropOrphans_9 : decode prog_7_method_6_code 9 = .ok (.getfield 9, 3) := by decide +kernel
theorem zd_Shape_dropOrphans_12 : decode prog_7_method_6_code 12 = .ok (.iload_n 1, 1) := by decide +kernel
theorem zd_Shape_dropOrphans_13 : decode prog_7_method_6_code 13 = .ok (.iconst 2, 1) := by decide +kernel
theorem zd_Shape_dropOrphans_14 : decode prog_7_method_6_code 14 = .ok (.idiv, 1) := by decide +kernel
theorem zd_Shape_dropOrphans_15 : decode prog_7_method_6_code 15 = .ok (.iaload, 1) := by decide +kernel
theorem zd_Shape_dropOrphans_16 : decode prog_7_method_6_code 16 = .ok (.iconst 2, 1) := by decide +kernel
theorem zd_Shape_dropOrphans_17 : decode prog_7_method_6_code 17 = .ok (.if_icmp .eq 10, 3) := by decide +kernel
theorem zd_Shape_dropOrphans_20 : decode prog_7_method_6_code 20 = .ok (.aload_n 0, 1) := by decide +kernel
theorem zd_Shape_dropOrphans_21 : decode prog_7_method_6_code 21 = .ok (.getfield 9, 3) := by decide +kernel
theorem zd_Shape_dropOrphans_24 : decode prog_7_method_6_code 24 = .ok (.iload_n 1, 1) := by decide +kernel
theorem zd_Shape_dropOrphans_25 : decode prog_7_method_6_code 25 = .ok (.iconst (-1), 1) := by decide +kernel
theorem zd_Shape_dropOrphans_26 : decode prog_7_method_6_code 26 = .ok (.iastore, 1) := by decide +kernel
theorem zd_Shape_dropOrphans_27 : decode prog_7_method_6_code 27 = .ok (.iinc 1 1, 3) := by decide +kernel
theorem zd_Shape_dropOrphans_30 : decode prog_7_method_6_code 30 = .ok (.goto (-28), 3) := by decide +kernel
theorem zd_Shape_dropOrphans_33 : decode prog_7_method_6_code 33 = .ok (.return_, 1) := by decide +kernel
def zm_Shape_leaves : zg_M := (⟨"SurrogateTree$Shape", "leaves", "()I"⟩, prog_7_method_5_code, 3, (some .int))
theorem zd_Shape_leaves_0 : decode prog_7_method_5_code 0 = .ok (.iconst 0, 1) := by decide +kernel
theorem zd_Shape_leaves_1 : decode prog_7_method_5_code 1 = .ok (.istore_n 1, 1) := by decide +kernel
theorem zd_Shape_leaves_2 : decode prog_7_method_5_code 2 = .ok (.iconst 1, 1) := by decide +kernel
theorem zd_Shape_leaves_3 : decode prog_7_method_5_code 3 = .ok (.istore_n 2, 1) := by decide +kernel
theorem zd_Shape_leaves_4 : decode prog_7_method_5_code 4 = .ok (.iload_n 2, 1) := by decide +kernel
theorem zd_Shape_leaves_5 : decode prog_7_method_5_code 5 = .ok (.bipush 32, 2) := by decide +kernel
theorem zd_Shape_leaves_7 : decode prog_7_method_5_code 7 = .ok (.if_icmp .ge 22, 3) := by decide +kernel
theorem zd_Shape_leaves_10 : decode prog_7_method_5_code 10 = .ok (.aload_n 0, 1) := by decide +kernel
theorem zd_Shape_leaves_11 : decode prog_7_method_5_code 11 = .ok (.getfield 9, 3) := by decide +kernel
theorem zd_Shape_leaves_14 : decode prog_7_method_5_code 14 = .ok (.iload_n 2, 1) := by decide +kernel
theorem zd_Shape_leaves_15 : decode prog_7_method_5_code 15 = .ok (.iaload, 1) := by decide +kernel
theorem zd_Shape_leaves_16 : decode prog_7_method_5_code 16 = .ok (.iconst 1, 1) := by decide +kernel
theorem zd_Shape_leaves_17 : decode prog_7_method_5_code 17 = .ok (.if_icmp .ne 6, 3) := by decide +kernel
theorem zd_Shape_leaves_20 : decode prog_7_method_5_code 20 = .ok (.iinc 1 1, 3) := by decide +kernel
theorem zd_Shape_leaves_23 : decode prog_7_method_5_code 23 = .ok (.iinc 2 1, 3) := by decide +kernel
theorem zd_Shape_leaves_26 : decode prog_7_method_5_code 26 = .ok (.goto (-22), 3) := by decide +kernel
theorem zd_Shape_leaves_29 : decode prog_7_method_5_code 29 = .ok (.iload_n 1, 1) := by decide +kernel
theorem zd_Shape_leaves_30 : decode prog_7_method_5_code 30 = .ok (.ireturn, 1) := by decide +kernel
def zm_Ballot_add : zg_M := (⟨"SurrogateTree$Ballot", "add", "(II)V"⟩, prog_2_method_3_code, 3, none)
theorem zd_Ballot_add_0 : decode prog_2_method_3_code 0 = .ok (.aload_n 0, 1) := by decide +kernel
theorem zd_Ballot_add_1 : decode prog_2_method_3_code 1 = .ok (.getfield 11, 3) := by decide +kernel
theorem zd_Ballot_add_4 : decode prog_2_method_3_code 4 = .ok (.iload_n 1, 1) := by decide +kernel
theorem zd_Ballot_add_5 : decode prog_2_method_3_code 5 = .ok (.aaload, 1) := by decide +kernel
theorem zd_Ballot_add_6 : decode prog_2_method_3_code 6 = .ok (.iload_n 2, 1) := by decide +kernel
theorem zd_Ballot_add_7 : decode prog_2_method_3_code 7 = .ok (.dup2, 1) := by decide +kernel
theorem zd_Ballot_add_8 : decode prog_2_method_3_code 8 = .ok (.iaload, 1) := by decide +kernel
theorem zd_Ballot_add_9 : decode prog_2_method_3_code 9 = .ok (.iconst 1, 1) := by decide +kernel
theorem zd_Ballot_add_10 : decode prog_2_method_3_code 10 = .ok (.iadd, 1) := by decide +kernel
theorem zd_Ballot_add_11 : decode prog_2_method_3_code 11 = .ok (.iastore, 1) := by decide +kernel
theorem zd_Ballot_add_12 : decode prog_2_method_3_code 12 = .ok (.return_, 1) := by decide +kernel
def zm_Ballot_choice : zg_M := (⟨"SurrogateTree$Ballot", "choice", "(I)I"⟩, prog_2_method_4_code, 5, (some .int))
theorem zd_Ballot_choice_0 : decode prog_2_method_4_code 0 = .ok (.iconst (-1), 1) := by decide +kernel
theorem zd_Ballot_choice_1 : decode prog_2_method_4_code 1 = .ok (.istore_n 2, 1) := by decide +kernel
theorem zd_Ballot_choice_2 : decode prog_2_method_4_code 2 = .ok (.iconst 0, 1) := by decide +kernel
theorem zd_Ballot_choice_3 : decode prog_2_method_4_code 3 = .ok (.istore_n 3, 1) := by decide +kernel
theorem zd_Ballot_choice_4 : decode prog_2_method_4_code 4 = .ok (.iconst 0, 1) := by decide +kernel
theorem zd_Ballot_choice_5 : decode prog_2_method_4_code 5 = .ok (.istore 4, 2) := by decide +kernel
theorem zd_Ballot_choice_7 : decode prog_2_method_4_code 7 = .ok (.iload 4, 2) := by decide +kernel
theorem zd_Ballot_choice_9 : decode prog_2_method_4_code 9 = .ok (.iconst 4, 1) := by decide +kernel
theorem zd_Ballot_choice_10 : decode prog_2_method_4_code 10 = .ok (.if_icmp .ge 35, 3) := by decide +kernel
theorem zd_Ballot_choice_13 : decode prog_2_method_4_code 13 = .ok (.aload_n 0, 1) := by decide +kernel
theorem zd_Ballot_choice_14 : decode prog_2_method_4_code 14 = .ok (.getfield 11, 3) := by decide +kernel
theorem zd_Ballot_choice_17 : decode prog_2_method_4_code 17 = .ok (.iload_n 1, 1) := by decide +kernel
theorem zd_Ballot_choice_18 : decode prog_2_method_4_code 18 = .ok (.aaload, 1) := by decide +kernel
theorem zd_Ballot_choice_19 : decode prog_2_method_4_code 19 = .ok (.iload 4, 2) := by decide +kernel
theorem zd_Ballot_choice_21 : decode prog_2_method_4_code 21 = .ok (.iaload, 1) := by decide +kernel
theorem zd_Ballot_choice_22 : decode prog_2_method_4_code 22 = .ok (.iload_n 3, 1) := by decide +kernel
theorem zd_Ballot_choice_23 : decode prog_2_method_4_code 23 = .ok (.if_icmp .le 16, 3) := by decide +kernel
theorem zd_Ballot_choice_26 : decode prog_2_method_4_code 26 = .ok (.aload_n 0, 1) := by decide +kernel
theorem zd_Ballot_choice_27 : decode prog_2_method_4_code 27 = .ok (.getfield 11, 3) := by decide +kernel
theorem zd_Ballot_choice_30 : decode prog_2_method_4_code 30 = .ok (.iload_n 1, 1) := by decide +kernel
theorem zd_Ballot_choice_31 : decode prog_2_method_4_code 31 = .ok (.aaload, 1) := by decide +kernel
theorem zd_Ballot_choice_32 : decode prog_2_method_4_code 32 = .ok (.iload 4, 2) := by decide +kernel
theorem zd_Ballot_choice_34 : decode prog_2_method_4_code 34 = .ok (.iaload, 1) := by decide +kernel
theorem zd_Ballot_choice_35 : decode prog_2_method_4_code 35 = .ok (.istore_n 3, 1) := by decide +kernel
theorem zd_Ballot_choice_36 : decode prog_2_method_4_code 36 = .ok (.iload 4, 2) := by decide +kernel
theorem zd_Ballot_choice_38 : decode prog_2_method_4_code 38 = .ok (.istore_n 2, 1) := by decide +kernel
theorem zd_Ballot_choice_39 : decode prog_2_method_4_code 39 = .ok (.iinc 4 1, 3) := by decide +kernel
theorem zd_Ballot_choice_42 : decode prog_2_method_4_code 42 = .ok (.goto (-35), 3) := by decide +kernel
theorem zd_Ballot_choice_45 : decode prog_2_method_4_code 45 = .ok (.iload_n 2, 1) := by decide +kernel
theorem zd_Ballot_choice_46 : decode prog_2_method_4_code 46 = .ok (.ireturn, 1) := by decide +kernel
end
section
def zm_Tree_init : zg_M := (⟨"SurrogateTree", "<init>", "()V"⟩, prog_1_method_1_code, 2, none)
theorem zd_Tree_init_0 : decode prog_1_method_1_code 0 = .ok (.aload_n 0, 1) := by decide +kernel
theorem zd_Tree_init_1 : decode prog_1_method_1_code 1 = .ok (.invokespecial 1, 3) := by decide +kernel
theorem zd_Tree_init_4 : decode prog_1_method_1_code 4 = .ok (.aload_n 0, 1) := by decide +kernel
theorem zd_Tree_init_5 : decode prog_1_method_1_code 5 = .ok (.new 7, 3) := by decide +kernel
theorem zd_Tree_init_8 : decode prog_1_method_1_code 8 = .ok (.dup, 1) := by decide +kernel
theorem zd_Tree_init_9 : decode prog_1_method_1_code 9 = .ok (.invokespecial 9, 3) := by decide +kernel
theorem zd_Tree_init_12 : decode prog_1_method_1_code 12 = .ok (.putfield 10, 3) := by decide +kernel
theorem zd_Tree_init_15 : decode prog_1_method_1_code 15 = .ok (.aload_n 0, 1) := by decide +kernel
theorem zd_Tree_init_16 : decode prog_1_method_1_code 16 = .ok (.new 16, 3) := by decide +kernel
theorem zd_Tree_init_19 : decode prog_1_method_1_code 19 = .ok (.dup, 1) := by decide +kernel
theorem zd_Tree_init_20 : decode prog_1_method_1_code 20 = .ok (.invokespecial 18, 3) := by decide +kernel
theorem zd_Tree_init_23 : decode prog_1_method_1_code 23 = .ok (.putfield 19, 3) := by decide +kernel
theorem zd_Tree_init_26 : decode prog_1_method_1_code 26 = .ok (.aload_n 0, 1) := by decide +kernel
theorem zd_Tree_init_27 : decode prog_1_method_1_code 27 = .ok (.bipush 32, 2) := by decide +kernel
theorem zd_Tree_init_29 : decode prog_1_method_1_code 29 = .ok (.anewarray 23, 3) := by decide +kernel
theorem zd_Tree_init_32 : decode prog_1_method_1_code 32 = .ok (.putfield 25, 3) := by decide +kernel
theorem zd_Tree_init_35 : decode prog_1_method_1_code 35 = .ok (.iconst 0, 1) := by decide +kernel
theorem zd_Tree_init_36 : decode prog_1_method_1_code 36 = .ok (.istore_n 1, 1) := by decide +kernel
theorem zd_Tree_init_37 : decode prog_1_method_1_code 37 = .ok (.iload_n 1, 1) := by decide +kernel
theorem zd_Tree_init_38 : decode prog_1_method_1_code 38 = .ok (.bipush 32, 2) := by decide +kernel
theorem zd_Tree_init_40 : decode prog_1_method_1_code 40 = .ok (.if_icmp .ge 22, 3) := by decide +kernel
theorem zd_Tree_init_43 : decode prog_1_method_1_code 43 = .ok (.aload_n 0, 1) := by decide +kernel
theorem zd_Tree_init_44 : decode prog_1_method_1_code 44 = .ok (.getfield 25, 3) := by decide +kernel
theorem zd_Tree_init_47 : decode prog_1_method_1_code 47 = .ok (.iload_n 1, 1) := by decide +kernel
theorem zd_Tree_init_48 : decode prog_1_method_1_code 48 = .ok (.new 23, 3) := by decide +kernel
theorem zd_Tree_init_51 : decode prog_1_method_1_code 51 = .ok (.dup, 1) := by decide +kernel
theorem zd_Tree_init_52 : decode prog_1_method_1_code 52 = .ok (.invokespecial 29, 3) := by decide +kernel
theorem zd_Tree_init_55 : decode prog_1_method_1_code 55 = .ok (.aastore, 1) := by decide +kernel
theorem zd_Tree_init_56 : decode prog_1_method_1_code 56 = .ok (.iinc 1 1, 3) := by decide +kernel
theorem zd_Tree_init_59 : decode prog_1_method_1_code 59 = .ok (.goto (-22), 3) := by decide +kernel
theorem zd_Tree_init_62 : decode prog_1_method_1_code 62 = .ok (.aload_n 0, 1) := by decide +kernel
theorem zd_Tree_init_63 : decode prog_1_method_1_code 63 = .ok (.new 30, 3) := by decide +kernel
theorem zd_Tree_init_66 : decode prog_1_method_1_code 66 = .ok (.dup, 1) := by decide +kernel
theorem zd_Tree_init_67 : decode prog_1_method_1_code 67 = .ok (.invokespecial 32, 3) := by decide +kernel
theorem zd_Tree_init_70 : decode prog_1_method_1_code 70 = .ok (.putfield 33, 3) := by decide +kernel
theorem zd_Tree_init_73 : decode prog_1_method_1_code 73 = .ok (.aload_n 0, 1) := by decide +kernel
theorem zd_Tree_init_74 : decode prog_1_method_1_code 74 = .ok (.new 30, 3) := by decide +kernel
theorem zd_Tree_init_77 : decode prog_1_method_1_code 77 = .ok (.dup, 1) := by decide +kernel
theorem zd_Tree_init_78 : decode prog_1_method_1_code 78 = .ok (.invokespecial 32, 3) := by decide +kernel
theorem zd_Tree_init_81 : decode prog_1_method_1_code 81 = .ok (.putfield 37, 3) := by decide +kernel
theorem zd_Tree_init_84 : decode prog_1_method_1_code 84 = .ok (.aload_n 0, 1) := by decide +kernel
theorem zd_Tree_init_85 : decode prog_1_method_1_code 85 = .ok (.new 40, 3) := by decide +kernel
theorem zd_Tree_init_88 : decode prog_1_method_1_code 88 = .ok (.dup, 1) := by decide +kernel
theorem zd_Tree_init_89 : decode prog_1_method_1_code 89 = .ok (.invokespecial 42, 3) := by decide +kernel
theorem zd_Tree_init_92 : decode prog_1_method_1_code 92 = .ok (.putfield 43, 3) := by decide +kernel
theorem zd_Tree_init_95 : decode prog_1_method_1_code 95 = .ok (.aload_n 0, 1) := by decide +kernel
theorem zd_Tree_init_96 : decode prog_1_method_1_code 96 = .ok (.new 47, 3) := by decide +kernel
theorem zd_Tree_init_99 : decode prog_1_method_1_code 99 = .ok (.dup, 1) := by decide +kernel
theorem zd_Tree_init_100 : decode prog_1_method_1_code 100 = .ok (.invokespecial 49, 3) := by decide +kernel
theorem zd_Tree_init_103 : decode prog_1_method_1_code 103 = .ok (.putfield 50, 3) := by decide +kernel
theorem zd_Tree_init_106 : decode prog_1_method_1_code 106 = .ok (.aload_n 0, 1) := by decide +kernel
theorem zd_Tree_init_107 : decode prog_1_method_1_code 107 = .ok (.new 54, 3) := by decide +kernel
theorem zd_Tree_init_110 : decode prog_1_method_1_code 110 = .ok (.dup, 1) := by decide +kernel
theorem zd_Tree_init_111 : decode prog_1_method_1_code 111 = .ok (.invokespecial 56, 3) := by decide +kernel
theorem zd_Tree_init_114 : decode prog_1_method_1_code 114 = .ok (.putfield 57, 3) := by decide +kernel
theorem zd_Tree_init_117 : decode prog_1_method_1_code 117 = .ok (.aload_n 0, 1) := by decide +kernel
theorem zd_Tree_init_118 : decode prog_1_method_1_code 118 = .ok (.iconst 3, 1) := by decide +kernel
theorem zd_Tree_init_119 : decode prog_1_method_1_code 119 = .ok (.newarray .int, 2) := by decide +kernel
theorem zd_Tree_init_121 : decode prog_1_method_1_code 121 = .ok (.putfield 61, 3) := by decide +kernel
theorem zd_Tree_init_124 : decode prog_1_method_1_code 124 = .ok (.aload_n 0, 1) := by decide +kernel
theorem zd_Tree_init_125 : decode prog_1_method_1_code 125 = .ok (.iconst 0, 1) := by decide +kernel
theorem zd_Tree_init_126 : decode prog_1_method_1_code 126 = .ok (.putfield 65, 3) := by decide +kernel
theorem zd_Tree_init_129 : decode prog_1_method_1_code 129 = .ok (.aload_n 0, 1) := by decide +kernel
theorem zd_Tree_init_130 : decode prog_1_method_1_code 130 = .ok (.iconst 4, 1) := by decide +kernel
theorem zd_Tree_init_131 : decode prog_1_method_1_code 131 = .ok (.putfield 69, 3) := by decide +kernel
theorem zd_Tree_init_134 : decode prog_1_method_1_code 134 = .ok (.aload_n 0, 1) := by decide +kernel
theorem zd_Tree_init_135 : decode prog_1_method_1_code 135 = .ok (.iconst 1, 1) := by decide +kernel
theorem zd_Tree_init_136 : decode prog_1_method_1_code 136 = .ok (.putfield 72, 3) := by decide +kernel
theorem zd_Tree_init_139 : decode prog_1_method_1_code 139 = .ok (.aload_n 0, 1) := by decide +kernel
theorem zd_Tree_init_140 : decode prog_1_method_1_code 140 = .ok (.invokevirtual 75, 3) := by decide +kernel
theorem zd_Tree_init_143 : decode prog_1_method_1_code 143 = .ok (.return_, 1) := by decide +kernel
def zm_SplitSearch_init : zg_M := (⟨"SurrogateTree$SplitSearch", "<init>", "()V"⟩, prog_8_method_1_code, 1, none)
theorem zd_SplitSearch_init_0 : decode prog_8_method_1_code 0 = .ok (.aload_n 0, 1) := by decide +kernel
theorem zd_SplitSearch_init_1 : decode prog_8_method_1_code 1 = .ok (.invokespecial 3, 3) := by decide +kernel
theorem zd_SplitSearch_init_4 : decode prog_8_method_1_code 4 = .ok (.aload_n 0, 1) := by decide +kernel
theorem zd_SplitSearch_init_5 : decode prog_8_method_1_code 5 = .ok (.new 9, 3) := by decide +kernel
theorem zd_SplitSearch_init_8 : decode prog_8_method_1_code 8 = .ok (.dup, 1) := by decide +kernel
theorem zd_SplitSearch_init_9 : decode prog_8_method_1_code 9 = .ok (.invokespecial 11, 3) := by decide +kernel
theorem zd_SplitSearch_init_12 : decode prog_8_method_1_code 12 = .ok (.putfield 12, 3) := by decide +kernel
theorem zd_SplitSearch_init_15 : decode prog_8_method_1_code 15 = .ok (.aload_n 0, 1) := by decide +kernel
theorem zd_SplitSearch_init_16 : decode prog_8_method_1_code 16 = .ok (.iconst 4, 1) := by decide +kernel
theorem zd_SplitSearch_init_17 : decode prog_8_method_1_code 17 = .ok (.newarray .int, 2) := by decide +kernel
theorem zd_SplitSearch_init_19 : decode prog_8_method_1_code 19 = .ok (.putfield 18, 3) := by decide +kernel
theorem zd_SplitSearch_init_22 : decode prog_8_method_1_code 22 = .ok (.aload_n 0, 1) := by decide +kernel
theorem zd_SplitSearch_init_23 : decode prog_8_method_1_code 23 = .ok (.iconst 4, 1) := by decide +kernel
theorem zd_SplitSearch_init_24 : decode prog_8_method_1_code 24 = .ok (.newarray .int, 2) := by decide +kernel
theorem zd_SplitSearch_init_26 : decode prog_8_method_1_code 26 = .ok (.putfield 22, 3) := by decide +kernel
theorem zd_SplitSearch_init_29 : decode prog_8_method_1_code 29 = .ok (.aload_n 0, 1) := by decide +kernel
theorem zd_SplitSearch_init_30 : decode prog_8_method_1_code 30 = .ok (.new 25, 3) := by decide +kernel
theorem zd_SplitSearch_init_33 : decode prog_8_method_1_code 33 = .ok (.dup, 1) := by decide +kernel
theorem zd_SplitSearch_init_34 : decode prog_8_method_1_code 34 = .ok (.invokespecial 27, 3) := by decide +kernel
theorem zd_SplitSearch_init_37 : decode prog_8_method_1_code 37 = .ok (.putfield 28, 3) := by decide +kernel
theorem zd_SplitSearch_init_40 : decode prog_8_method_1_code 40 = .ok (.return_, 1) := by decide +kernel
def zm_StandInSearch_init : zg_M := (⟨"SurrogateTree$StandInSearch", "<init>", "()V"⟩, prog_10_method_1_code, 1, none)
theorem zd_StandInSearch_init_0 : decode prog_10_method_1_code 0 = .ok (.aload_n 0, 1) := by decide +kernel
theorem zd_StandInSearch_init_1 : decode prog_10_method_1_code 1 = .ok (.invokespecial 3, 3) := by decide +kernel
theorem zd_StandInSearch_init_4 : decode prog_10_method_1_code 4 = .ok (.aload_n 0, 1) := by decide +kernel
theorem zd_StandInSearch_init_5 : decode prog_10_method_1_code 5 = .ok (.new 9, 3) := by decide +kernel
theorem zd_StandInSearch_init_8 : decode prog_10_method_1_code 8 = .ok (.dup, 1) := by decide +kernel
theorem zd_StandInSearch_init_9 : decode prog_10_method_1_code 9 = .ok (.invokespecial 11, 3) := by decide +kernel
theorem zd_StandInSearch_init_12 : decode prog_10_method_1_code 12 = .ok (.putfield 12, 3) := by decide +kernel
theorem zd_StandInSearch_init_15 : decode prog_10_method_1_code 15 = .ok (.aload_n 0, 1) := by decide +kernel
theorem zd_StandInSearch_init_16 : decode prog_10_method_1_code 16 = .ok (.new 18, 3) := by decide +kernel
theorem zd_StandInSearch_init_19 : decode prog_10_method_1_code 19 = .ok (.dup, 1) := by decide +kernel
theorem zd_StandInSearch_init_20 : decode prog_10_method_1_code 20 = .ok (.invokespecial 20, 3) := by decide +kernel
theorem zd_StandInSearch_init_23 : decode prog_10_method_1_code 23 = .ok (.putfield 21, 3) := by decide +kernel
theorem zd_StandInSearch_init_26 : decode prog_10_method_1_code 26 = .ok (.return_, 1) := by decide +kernel
def zm_Cutter_init : zg_M := (⟨"SurrogateTree$Cutter", "<init>", "()V"⟩, prog_3_method_1_code, 1, none)
theorem zd_Cutter_init_0 : decode prog_3_method_1_code 0 = .ok (.aload_n 0, 1) := by decide +kernel
theorem zd_Cutter_init_1 : decode prog_3_method_1_code 1 = .ok (.invokespecial 3, 3) := by decide +kernel
theorem zd_Cutter_init_4 : decode prog_3_method_1_code 4 = .ok (.aload_n 0, 1) := by decide +kernel
theorem zd_Cutter_init_5 : decode prog_3_method_1_code 5 = .ok (.new 9, 3) := by decide +kernel
theorem zd_Cutter_init_8 : decode prog_3_method_1_code 8 = .ok (.dup, 1) := by decide +kernel
theorem zd_Cutter_init_9 : decode prog_3_method_1_code 9 = .ok (.invokespecial 11, 3) := by decide +kernel
theorem zd_Cutter_init_12 : decode prog_3_method_1_code 12 = .ok (.putfield 12, 3) := by decide +kernel
theorem zd_Cutter_init_15 : decode prog_3_method_1_code 15 = .ok (.aload_n 0, 1) := by decide +kernel
theorem zd_Cutter_init_16 : decode prog_3_method_1_code 16 = .ok (.new 18, 3) := by decide +kernel
theorem zd_Cutter_init_19 : decode prog_3_method_1_code 19 = .ok (.dup, 1) := by decide +kernel
theorem zd_Cutter_init_20 : decode prog_3_method_1_code 20 = .ok (.invokespecial 20, 3) := by decide +kernel
theorem zd_Cutter_init_23 : decode prog_3_method_1_code 23 = .ok (.putfield 21, 3) := by decide +kernel
theorem zd_Cutter_init_26 : decode prog_3_method_1_code 26 = .ok (.aload_n 0, 1) := by decide +kernel
theorem zd_Cutter_init_27 : decode prog_3_method_1_code 27 = .ok (.new 9, 3) := by decide +kernel
theorem zd_Cutter_init_30 : decode prog_3_method_1_code 30 = .ok (.dup, 1) := by decide +kernel
theorem zd_Cutter_init_31 : decode prog_3_method_1_code 31 = .ok (.invokespecial 11, 3) := by decide +kernel
theorem zd_Cutter_init_34 : decode prog_3_method_1_code 34 = .ok (.putfield 25, 3) := by decide +kernel
theorem zd_Cutter_init_37 : decode prog_3_method_1_code 37 = .ok (.aload_n 0, 1) := by decide +kernel
theorem zd_Cutter_init_38 : decode prog_3_method_1_code 38 = .ok (.bipush 32, 2) := by decide +kernel
theorem zd_Cutter_init_40 : decode prog_3_method_1_code 40 = .ok (.newarray .int, 2) := by decide +kernel
theorem zd_Cutter_init_42 : decode prog_3_method_1_code 42 = .ok (.putfield 28, 3) := by decide +kernel
theorem zd_Cutter_init_45 : decode prog_3_method_1_code 45 = .ok (.aload_n 0, 1) := by decide +kernel
theorem zd_Cutter_init_46 : decode prog_3_method_1_code 46 = .ok (.bipush 32, 2) := by decide +kernel
theorem zd_Cutter_init_48 : decode prog_3_method_1_code 48 = .ok (.newarray .int, 2) := by decide +kernel
theorem zd_Cutter_init_50 : decode prog_3_method_1_code 50 = .ok (.putfield 32, 3) := by decide +kernel
theorem zd_Cutter_init_53 : decode prog_3_method_1_code 53 = .ok (.aload_n 0, 1) := by decide +kernel
theorem zd_Cutter_init_54 : decode prog_3_method_1_code 54 = .ok (.bipush 32, 2) := by decide +kernel
theorem zd_Cutter_init_56 : decode prog_3_method_1_code 56 = .ok (.newarray .int, 2) := by decide +kernel
theorem zd_Cutter_init_58 : decode prog_3_method_1_code 58 = .ok (.putfield 35, 3) := by decide +kernel
theorem zd_Cutter_init_61 : decode prog_3_method_1_code 61 = .ok (.return_, 1) := by decide +kernel
def zm_Tree_startAnew : zg_M := (⟨"SurrogateTree", "startAnew", "()V"⟩, prog_1_method_23_code, 1, none)
theorem zd_Tree_startAnew_0 : decode prog_1_method_23_code 0 = .ok (.aload_n 0, 1) := by decide +kernel
theorem zd_Tree_startAnew_1 : decode prog_1_method_23_code 1 = .ok (.getfield 33, 3) := by decide +kernel
theorem zd_Tree_startAnew_4 : decode prog_1_method_23_code 4 = .ok (.invokevirtual 211, 3) := by decide +kernel
theorem zd_Tree_startAnew_7 : decode prog_1_method_23_code 7 = .ok (.aload_n 0, 1) := by decide +kernel
theorem zd_Tree_startAnew_8 : decode prog_1_method_23_code 8 = .ok (.iconst 1, 1) := by decide +kernel
theorem zd_Tree_startAnew_9 : decode prog_1_method_23_code 9 = .ok (.aload_n 0, 1) := by decide +kernel
theorem zd_Tree_startAnew_10 : decode prog_1_method_23_code 10 = .ok (.getfield 10, 3) := by decide +kernel
theorem zd_Tree_startAnew_13 : decode prog_1_method_23_code 13 = .ok (.invokevirtual 100, 3) := by decide +kernel
theorem zd_Tree_startAnew_16 : decode prog_1_method_23_code 16 = .ok (.invokevirtual 212, 3) := by decide +kernel
theorem zd_Tree_startAnew_19 : decode prog_1_method_23_code 19 = .ok (.aload_n 0, 1) := by decide +kernel
theorem zd_Tree_startAnew_20 : decode prog_1_method_23_code 20 = .ok (.aload_n 0, 1) := by decide +kernel
theorem zd_Tree_startAnew_21 : decode prog_1_method_23_code 21 = .ok (.getfield 33, 3) := by decide +kernel
theorem zd_Tree_startAnew_24 : decode prog_1_method_23_code 24 = .ok (.putfield 122, 3) := by decide +kernel
theorem zd_Tree_startAnew_27 : decode prog_1_method_23_code 27 = .ok (.return_, 1) := by decide +kernel
def zm_Tree_openNode : zg_M := (⟨"SurrogateTree", "openNode", "(II)V"⟩, prog_1_method_24_code, 3, none)
theorem zd_Tree_openNode_0 : decode prog_1_method_24_code 0 = .ok (.aload_n 0, 1) := by decide +kernel
theorem zd_Tree_openNode_1 : decode prog_1_method_24_code 1 = .ok (.getfield 25, 3) := by decide +kernel
theorem zd_Tree_openNode_4 : decode prog_1_method_24_code 4 = .ok (.iload_n 1, 1) := by decide +kernel
theorem zd_Tree_openNode_5 : decode prog_1_method_24_code 5 = .ok (.aaload, 1) := by decide +kernel
theorem zd_Tree_openNode_6 : decode prog_1_method_24_code 6 = .ok (.aload_n 0, 1) := by decide +kernel
theorem zd_Tree_openNode_7 : decode prog_1_method_24_code 7 = .ok (.getfield 10, 3) := by decide +kernel
theorem zd_Tree_openNode_10 : decode prog_1_method_24_code 10 = .ok (.iload_n 2, 1) := by decide +kernel
theorem zd_Tree_openNode_11 : decode prog_1_method_24_code 11 = .ok (.invokevirtual 215, 3) := by decide +kernel
theorem zd_Tree_openNode_14 : decode prog_1_method_24_code 14 = .ok (.aload_n 0, 1) := by decide +kernel
theorem zd_Tree_openNode_15 : decode prog_1_method_24_code 15 = .ok (.getfield 33, 3) := by decide +kernel
theorem zd_Tree_openNode_18 : decode prog_1_method_24_code 18 = .ok (.getfield 219, 3) := by decide +kernel
theorem zd_Tree_openNode_21 : decode prog_1_method_24_code 21 = .ok (.iload_n 1, 1) := by decide +kernel
theorem zd_Tree_openNode_22 : decode prog_1_method_24_code 22 = .ok (.iconst 0, 1) := by decide +kernel
theorem zd_Tree_openNode_23 : decode prog_1_method_24_code 23 = .ok (.iastore, 1) := by decide +kernel
theorem zd_Tree_openNode_24 : decode prog_1_method_24_code 24 = .ok (.return_, 1) := by decide +kernel
def zm_Tree_addRow : zg_M := (⟨"SurrogateTree", "addRow", "(IIII)I"⟩, prog_1_method_2_code, 6, (some .int))
theorem zd_Tree_addRow_0 : decode prog_1_method_2_code 0 = .ok (.iload 4, 2) := by decide +kernel
theorem zd_Tree_addRow_2 : decode prog_1_method_2_code 2 = .ok (.invokestatic 78, 3) := by decide +kernel
theorem zd_Tree_addRow_5 : decode prog_1_method_2_code 5 = .ok (.ifCond .eq 15, 3) := by decide +kernel
theorem zd_Tree_addRow_8 : decode prog_1_method_2_code 8 = .ok (.aload_n 0, 1) := by decide +kernel
theorem zd_Tree_addRow_9 : decode prog_1_method_2_code 9 = .ok (.getfield 10, 3) := by decide +kernel
theorem zd_Tree_addRow_12 : decode prog_1_method_2_code 12 = .ok (.getfield 82, 3) := by decide +kernel
theorem zd_Tree_addRow_15 : decode prog_1_method_2_code 15 = .ok (.bipush 16, 2) := by decide +kernel
theorem zd_Tree_addRow_17 : decode prog_1_method_2_code 17 = .ok (.if_icmp .lt 5, 3) := by decide +kernel
theorem zd_Tree_addRow_20 : decode prog_1_method_2_code 20 = .ok (.iconst (-1), 1) := by decide +kernel
theorem zd_Tree_addRow_21 : decode prog_1_method_2_code 21 = .ok (.ireturn, 1) := by decide +kernel
theorem zd_Tree_addRow_22 : decode prog_1_method_2_code 22 = .ok (.aload_n 0, 1) := by decide +kernel
theorem zd_Tree_addRow_23 : decode prog_1_method_2_code 23 = .ok (.getfield 10, 3) := by decide +kernel
theorem zd_Tree_addRow_26 : decode prog_1_method_2_code 26 = .ok (.iload_n 1, 1) := by decide +kernel
theorem zd_Tree_addRow_27 : decode prog_1_method_2_code 27 = .ok (.iload_n 2, 1) := by decide +kernel
theorem zd_Tree_addRow_28 : decode prog_1_method_2_code 28 = .ok (.iload_n 3, 1) := by decide +kernel
theorem zd_Tree_addRow_29 : decode prog_1_method_2_code 29 = .ok (.iload 4, 2) := by decide +kernel
theorem zd_Tree_addRow_31 : decode prog_1_method_2_code 31 = .ok (.invokevirtual 85, 3) := by decide +kernel
theorem zd_Tree_addRow_34 : decode prog_1_method_2_code 34 = .ok (.istore 5, 2) := by decide +kernel
theorem zd_Tree_addRow_36 : decode prog_1_method_2_code 36 = .ok (.aload_n 0, 1) := by decide +kernel
theorem zd_Tree_addRow_37 : decode prog_1_method_2_code 37 = .ok (.getfield 10, 3) := by decide +kernel
theorem zd_Tree_addRow_40 : decode prog_1_method_2_code 40 = .ok (.iconst 1, 1) := by decide +kernel
theorem zd_Tree_addRow_41 : decode prog_1_method_2_code 41 = .ok (.invokevirtual 89, 3) := by decide +kernel
theorem zd_Tree_addRow_44 : decode prog_1_method_2_code 44 = .ok (.aload_n 0, 1) := by decide +kernel
theorem zd_Tree_addRow_45 : decode prog_1_method_2_code 45 = .ok (.getfield 19, 3) := by decide +kernel
theorem zd_Tree_addRow_48 : decode prog_1_method_2_code 48 = .ok (.invokevirtual 93, 3) := by decide +kernel
theorem zd_Tree_addRow_51 : decode prog_1_method_2_code 51 = .ok (.aload_n 0, 1) := by decide +kernel
theorem zd_Tree_addRow_52 : decode prog_1_method_2_code 52 = .ok (.invokevirtual 75, 3) := by decide +kernel
theorem zd_Tree_addRow_55 : decode prog_1_method_2_code 55 = .ok (.iload 5, 2) := by decide +kernel
theorem zd_Tree_addRow_57 : decode prog_1_method_2_code 57 = .ok (.ireturn, 1) := by decide +kernel
def zm_Tree_isClass : zg_M := (⟨"SurrogateTree", "isClass", "(I)Z"⟩, prog_1_method_21_code, 1, (some .boolean))
theorem zd_Tree_isClass_0 : decode prog_1_method_21_code 0 = .ok (.iload_n 0, 1) := by decide +kernel
theorem zd_Tree_isClass_1 : decode prog_1_method_21_code 1 = .ok (.ifCond .lt 12, 3) := by decide +kernel
theorem zd_Tree_isClass_4 : decode prog_1_method_21_code 4 = .ok (.iload_n 0, 1) := by decide +kernel
theorem zd_Tree_isClass_5 : decode prog_1_method_21_code 5 = .ok (.iconst 4, 1) := by decide +kernel
theorem zd_Tree_isClass_6 : decode prog_1_method_21_code 6 = .ok (.if_icmp .ge 7, 3) := by decide +kernel
theorem zd_Tree_isClass_9 : decode prog_1_method_21_code 9 = .ok (.iconst 1, 1) := by decide +kernel
theorem zd_Tree_isClass_10 : decode prog_1_method_21_code 10 = .ok (.goto 4, 3) := by decide +kernel
theorem zd_Tree_isClass_13 : decode prog_1_method_21_code 13 = .ok (.iconst 0, 1) := by decide +kernel
theorem zd_Tree_isClass_14 : decode prog_1_method_21_code 14 = .ok (.ireturn, 1) := by decide +kernel
def zm_Tree_begin : zg_M := (⟨"SurrogateTree", "begin", "(III)Z"⟩, prog_1_method_3_code, 4, (some .boolean))
theorem zd_Tree_begin_0 : decode prog_1_method_3_code 0 = .ok (.iload_n 1, 1) := by decide +kernel
theorem zd_Tree_begin_1 : decode prog_1_method_3_code 1 = .ok (.ifCond .lt 17, 3) := by decide +kernel
theorem zd_Tree_begin_4 : decode prog_1_method_3_code 4 = .ok (.iload_n 1, 1) := by decide +kernel
theorem zd_Tree_begin_5 : decode prog_1_method_3_code 5 = .ok (.iconst 3, 1) := by decide +kernel
theorem zd_Tree_begin_6 : decode prog_1_method_3_code 6 = .ok (.if_icmp .ge 12, 3) := by decide +kernel
theorem zd_Tree_begin_9 : decode prog_1_method_3_code 9 = .ok (.iload_n 2, 1) := by decide +kernel
theorem zd_Tree_begin_10 : decode prog_1_method_3_code 10 = .ok (.ifCond .lt 8, 3) := by decide +kernel
theorem zd_Tree_begin_13 : decode prog_1_method_3_code 13 = .ok (.iload_n 2, 1) := by decide +kernel
theorem zd_Tree_begin_14 : decode prog_1_method_3_code 14 = .ok (.iconst 4, 1) := by decide +kernel
theorem zd_Tree_begin_15 : decode prog_1_method_3_code 15 = .ok (.if_icmp .le 5, 3) := by decide +kernel
theorem zd_Tree_begin_18 : decode prog_1_method_3_code 18 = .ok (.iconst 0, 1) := by decide +kernel
theorem zd_Tree_begin_19 : decode prog_1_method_3_code 19 = .ok (.ireturn, 1) := by decide +kernel
theorem zd_Tree_begin_20 : decode prog_1_method_3_code 20 = .ok (.iload_n 3, 1) := by decide +kernel
theorem zd_Tree_begin_21 : decode prog_1_method_3_code 21 = .ok (.iconst 1, 1) := by decide +kernel
theorem zd_Tree_begin_22 : decode prog_1_method_3_code 22 = .ok (.if_icmp .lt 9, 3) := by decide +kernel
theorem zd_Tree_begin_25 : decode prog_1_method_3_code 25 = .ok (.iload_n 3, 1) := by decide +kernel
theorem zd_Tree_begin_26 : decode prog_1_method_3_code 26 = .ok (.bipush 8, 2) := by decide +kernel
theorem zd_Tree_begin_28 : decode prog_1_method_3_code 28 = .ok (.if_icmp .le 5, 3) := by decide +kernel
theorem zd_Tree_begin_31 : decode prog_1_method_3_code 31 = .ok (.iconst 0, 1) := by decide +kernel
theorem zd_Tree_begin_32 : decode prog_1_method_3_code 32 = .ok (.ireturn, 1) := by decide +kernel
theorem zd_Tree_begin_33 : decode prog_1_method_3_code 33 = .ok (.aload_n 0, 1) := by decide +kernel
theorem zd_Tree_begin_34 : decode prog_1_method_3_code 34 = .ok (.iload_n 1, 1) := by decide +kernel
theorem zd_Tree_begin_35 : decode prog_1_method_3_code 35 = .ok (.putfield 65, 3) := by decide +kernel
theorem zd_Tree_begin_38 : decode prog_1_method_3_code 38 = .ok (.aload_n 0, 1) := by decide +kernel
theorem zd_Tree_begin_39 : decode prog_1_method_3_code 39 = .ok (.iload_n 2, 1) := by decide +kernel
theorem zd_Tree_begin_40 : decode prog_1_method_3_code 40 = .ok (.putfield 69, 3) := by decide +kernel
theorem zd_Tree_begin_43 : decode prog_1_method_3_code 43 = .ok (.aload_n 0, 1) := by decide +kernel
theorem zd_Tree_begin_44 : decode prog_1_method_3_code 44 = .ok (.iload_n 3, 1) := by decide +kernel
theorem zd_Tree_begin_45 : decode prog_1_method_3_code 45 = .ok (.putfield 72, 3) := by decide +kernel
theorem zd_Tree_begin_48 : decode prog_1_method_3_code 48 = .ok (.aload_n 0, 1) := by decide +kernel
theorem zd_Tree_begin_49 : decode prog_1_method_3_code 49 = .ok (.invokevirtual 75, 3) := by decide +kernel
theorem zd_Tree_begin_52 : decode prog_1_method_3_code 52 = .ok (.iconst 1, 1) := by decide +kernel
theorem zd_Tree_begin_53 : decode prog_1_method_3_code 53 = .ok (.ireturn, 1) := by decide +kernel
def zm_Tree_bag : zg_M := (⟨"SurrogateTree", "bag", "(J)I"⟩, prog_1_method_4_code, 3, (some .int))
theorem zd_Tree_bag_0 : decode prog_1_method_4_code 0 = .ok (.aload_n 0, 1) := by decide +kernel
theorem zd_Tree_bag_1 : decode prog_1_method_4_code 1 = .ok (.getfield 10, 3) := by decide +kernel
theorem zd_Tree_bag_4 : decode prog_1_method_4_code 4 = .ok (.getfield 82, 3) := by decide +kernel
theorem zd_Tree_bag_7 : decode prog_1_method_4_code 7 = .ok (.ifCond .ne 5, 3) := by decide +kernel
theorem zd_Tree_bag_10 : decode prog_1_method_4_code 10 = .ok (.iconst (-1), 1) := by decide +kernel
theorem zd_Tree_bag_11 : decode prog_1_method_4_code 11 = .ok (.ireturn, 1) := by decide +kernel
theorem zd_Tree_bag_12 : decode prog_1_method_4_code 12 = .ok (.aload_n 0, 1) := by decide +kernel
theorem zd_Tree_bag_13 : decode prog_1_method_4_code 13 = .ok (.getfield 10, 3) := by decide +kernel
theorem zd_Tree_bag_16 : decode prog_1_method_4_code 16 = .ok (.lload_n 1, 1) := by decide +kernel
theorem zd_Tree_bag_17 : decode prog_1_method_4_code 17 = .ok (.invokevirtual 96, 3) := by decide +kernel
theorem zd_Tree_bag_20 : decode prog_1_method_4_code 20 = .ok (.aload_n 0, 1) := by decide +kernel
theorem zd_Tree_bag_21 : decode prog_1_method_4_code 21 = .ok (.invokevirtual 75, 3) := by decide +kernel
theorem zd_Tree_bag_24 : decode prog_1_method_4_code 24 = .ok (.aload_n 0, 1) := by decide +kernel
theorem zd_Tree_bag_25 : decode prog_1_method_4_code 25 = .ok (.getfield 10, 3) := by decide +kernel
theorem zd_Tree_bag_28 : decode prog_1_method_4_code 28 = .ok (.getfield 82, 3) := by decide +kernel
theorem zd_Tree_bag_31 : decode prog_1_method_4_code 31 = .ok (.aload_n 0, 1) := by decide +kernel
theorem zd_Tree_bag_32 : decode prog_1_method_4_code 32 = .ok (.getfield 10, 3) := by decide +kernel
theorem zd_Tree_bag_35 : decode prog_1_method_4_code 35 = .ok (.invokevirtual 100, 3) := by decide +kernel
theorem zd_Tree_bag_38 : decode prog_1_method_4_code 38 = .ok (.invokestatic 104, 3) := by decide +kernel
theorem zd_Tree_bag_41 : decode prog_1_method_4_code 41 = .ok (.isub, 1) := by decide +kernel
theorem zd_Tree_bag_42 : decode prog_1_method_4_code 42 = .ok (.ireturn, 1) := by decide +kernel
def zm_Integer_bitCount : zg_M := (⟨"java/lang/Integer", "bitCount", "(I)I"⟩, prog_14_method_49_code, 1, (some .int))
theorem zd_Integer_bitCount_0 : decode prog_14_method_49_code 0 = .ok (.iload_n 0, 1) := by decide +kernel
theorem zd_Integer_bitCount_1 : decode prog_14_method_49_code 1 = .ok (.iload_n 0, 1) := by decide +kernel
theorem zd_Integer_bitCount_2 : decode prog_14_method_49_code 2 = .ok (.iconst 1, 1) := by decide +kernel
theorem zd_Integer_bitCount_3 : decode prog_14_method_49_code 3 = .ok (.iushr, 1) := by decide +kernel
theorem zd_Integer_bitCount_4 : decode prog_14_method_49_code 4 = .ok (.ldc_w 265, 3) := by decide +kernel
theorem zd_Integer_bitCount_7 : decode prog_14_method_49_code 7 = .ok (.iand, 1) := by decide +kernel
theorem zd_Integer_bitCount_8 : decode prog_14_method_49_code 8 = .ok (.isub, 1) := by decide +kernel
theorem zd_Integer_bitCount_9 : decode prog_14_method_49_code 9 = .ok (.istore_n 0, 1) := by decide +kernel
theorem zd_Integer_bitCount_10 : decode prog_14_method_49_code 10 = .ok (.iload_n 0, 1) := by decide +kernel
theorem zd_Integer_bitCount_11 : decode prog_14_method_49_code 11 = .ok (.ldc_w 266, 3) := by decide +kernel
theorem zd_Integer_bitCount_14 : decode prog_14_method_49_code 14 = .ok (.iand, 1) := by decide +kernel
theorem zd_Integer_bitCount_15 : decode prog_14_method_49_code 15 = .ok (.iload_n 0, 1) := by decide +kernel
theorem zd_Integer_bitCount_16 : decode prog_14_method_49_code 16 = .ok (.iconst 2, 1) := by decide +kernel
theorem zd_Integer_bitCount_17 : decode prog_14_method_49_code 17 = .ok (.iushr, 1) := by decide +kernel
theorem zd_Integer_bitCount_18 : decode prog_14_method_49_code 18 = .ok (.ldc_w 266, 3) := by decide +kernel
theorem zd_Integer_bitCount_21 : decode prog_14_method_49_code 21 = .ok (.iand, 1) := by decide +kernel
theorem zd_Integer_bitCount_22 : decode prog_14_method_49_code 22 = .ok (.iadd, 1) := by decide +kernel
theorem zd_Integer_bitCount_23 : decode prog_14_method_49_code 23 = .ok (.istore_n 0, 1) := by decide +kernel
theorem zd_Integer_bitCount_24 : decode prog_14_method_49_code 24 = .ok (.iload_n 0, 1) := by decide +kernel
theorem zd_Integer_bitCount_25 : decode prog_14_method_49_code 25 = .ok (.iload_n 0, 1) := by decide +kernel
theorem zd_Integer_bitCount_26 : decode prog_14_method_49_code 26 = .ok (.iconst 4, 1) := by decide +kernel
theorem zd_Integer_bitCount_27 : decode prog_14_method_49_code 27 = .ok (.iushr, 1) := by decide +kernel
theorem zd_Integer_bitCount_28 : decode prog_14_method_49_code 28 = .ok (.iadd, 1) := by decide +kernel
theorem zd_Integer_bitCount_29 : decode prog_14_method_49_code 29 = .ok (.ldc_w 267, 3) := by decide +kernel
theorem zd_Integer_bitCount_32 : decode prog_14_method_49_code 32 = .ok (.iand, 1) := by decide +kernel
theorem zd_Integer_bitCount_33 : decode prog_14_method_49_code 33 = .ok (.istore_n 0, 1) := by decide +kernel
theorem zd_Integer_bitCount_34 : decode prog_14_method_49_code 34 = .ok (.iload_n 0, 1) := by decide +kernel
theorem zd_Integer_bitCount_35 : decode prog_14_method_49_code 35 = .ok (.iload_n 0, 1) := by decide +kernel
theorem zd_Integer_bitCount_36 : decode prog_14_method_49_code 36 = .ok (.bipush 8, 2) := by decide +kernel
theorem zd_Integer_bitCount_38 : decode prog_14_method_49_code 38 = .ok (.iushr, 1) := by decide +kernel
theorem zd_Integer_bitCount_39 : decode prog_14_method_49_code 39 = .ok (.iadd, 1) := by decide +kernel
theorem zd_Integer_bitCount_40 : decode prog_14_method_49_code 40 = .ok (.istore_n 0, 1) := by decide +kernel
theorem zd_Integer_bitCount_41 : decode prog_14_method_49_code 41 = .ok (.iload_n 0, 1) := by decide +kernel
theorem zd_Integer_bitCount_42 : decode prog_14_method_49_code 42 = .ok (.iload_n 0, 1) := by decide +kernel
theorem zd_Integer_bitCount_43 : decode prog_14_method_49_code 43 = .ok (.bipush 16, 2) := by decide +kernel
theorem zd_Integer_bitCount_45 : decode prog_14_method_49_code 45 = .ok (.iushr, 1) := by decide +kernel
theorem zd_Integer_bitCount_46 : decode prog_14_method_49_code 46 = .ok (.iadd, 1) := by decide +kernel
theorem zd_Integer_bitCount_47 : decode prog_14_method_49_code 47 = .ok (.istore_n 0, 1) := by decide +kernel
theorem zd_Integer_bitCount_48 : decode prog_14_method_49_code 48 = .ok (.iload_n 0, 1) := by decide +kernel
theorem zd_Integer_bitCount_49 : decode prog_14_method_49_code 49 = .ok (.bipush 63, 2) := by decide +kernel
theorem zd_Integer_bitCount_51 : decode prog_14_method_49_code 51 = .ok (.iand, 1) := by decide +kernel
theorem zd_Integer_bitCount_52 : decode prog_14_method_49_code 52 = .ok (.ireturn, 1) := by decide +kernel
def zm_Tree_even : zg_M := (⟨"SurrogateTree", "even", "()V"⟩, prog_1_method_5_code, 1, none)
theorem zd_Tree_even_0 : decode prog_1_method_5_code 0 = .ok (.aload_n 0, 1) := by decide +kernel
theorem zd_Tree_even_1 : decode prog_1_method_5_code 1 = .ok (.getfield 10, 3) := by decide +kernel
theorem zd_Tree_even_4 : decode prog_1_method_5_code 4 = .ok (.iconst 1, 1) := by decide +kernel
theorem zd_Tree_even_5 : decode prog_1_method_5_code 5 = .ok (.invokevirtual 89, 3) := by decide +kernel
theorem zd_Tree_even_8 : decode prog_1_method_5_code 8 = .ok (.aload_n 0, 1) := by decide +kernel
theorem zd_Tree_even_9 : decode prog_1_method_5_code 9 = .ok (.invokevirtual 75, 3) := by decide +kernel
theorem zd_Tree_even_12 : decode prog_1_method_5_code 12 = .ok (.return_, 1) := by decide +kernel
def zm_Tree_weight : zg_M := (⟨"SurrogateTree", "weight", "(I)I"⟩, prog_1_method_6_code, 2, (some .int))
theorem zd_Tree_weight_0 : decode prog_1_method_6_code 0 = .ok (.aload_n 0, 1) := by decide +kernel
theorem zd_Tree_weight_1 : decode prog_1_method_6_code 1 = .ok (.getfield 10, 3) := by decide +kernel
theorem zd_Tree_weight_4 : decode prog_1_method_6_code 4 = .ok (.iload_n 1, 1) := by decide +kernel
theorem zd_Tree_weight_5 : decode prog_1_method_6_code 5 = .ok (.invokevirtual 110, 3) := by decide +kernel
theorem zd_Tree_weight_8 : decode prog_1_method_6_code 8 = .ok (.ifCond .eq 15, 3) := by decide +kernel
theorem zd_Tree_weight_11 : decode prog_1_method_6_code 11 = .ok (.aload_n 0, 1) := by decide +kernel
theorem zd_Tree_weight_12 : decode prog_1_method_6_code 12 = .ok (.getfield 10, 3) := by decide +kernel
theorem zd_Tree_weight_15 : decode prog_1_method_6_code 15 = .ok (.getfield 113, 3) := by decide +kernel
theorem zd_Tree_weight_18 : decode prog_1_method_6_code 18 = .ok (.iload_n 1, 1) := by decide +kernel
theorem zd_Tree_weight_19 : decode prog_1_method_6_code 19 = .ok (.iaload, 1) := by decide +kernel
theorem zd_Tree_weight_20 : decode prog_1_method_6_code 20 = .ok (.goto 4, 3) := by decide +kernel
theorem zd_Tree_weight_23 : decode prog_1_method_6_code 23 = .ok (.iconst (-1), 1) := by decide +kernel
theorem zd_Tree_weight_24 : decode prog_1_method_6_code 24 = .ok (.ireturn, 1) := by decide +kernel
def zm_Tree_grow : zg_M := (⟨"SurrogateTree", "grow", "(I)I"⟩, prog_1_method_7_code, 5, (some .int))
theorem zd_Tree_grow_0 : decode prog_1_method_7_code 0 = .ok (.iload_n 1, 1) := by decide +kernel
theorem zd_Tree_grow_1 : decode prog_1_method_7_code 1 = .ok (.iconst 1, 1) := by decide +kernel
theorem zd_Tree_grow_2 : decode prog_1_method_7_code 2 = .ok (.if_icmp .lt 8, 3) := by decide +kernel
theorem zd_Tree_grow_5 : decode prog_1_method_7_code 5 = .ok (.iload_n 1, 1) := by decide +kernel
theorem zd_Tree_grow_6 : decode prog_1_method_7_code 6 = .ok (.iconst 3, 1) := by decide +kernel
theorem zd_Tree_grow_7 : decode prog_1_method_7_code 7 = .ok (.if_icmp .le 5, 3) := by decide +kernel
theorem zd_Tree_grow_10 : decode prog_1_method_7_code 10 = .ok (.iconst (-1), 1) := by decide +kernel
theorem zd_Tree_grow_11 : decode prog_1_method_7_code 11 = .ok (.ireturn, 1) := by decide +kernel
theorem zd_Tree_grow_12 : decode prog_1_method_7_code 12 = .ok (.iconst 0, 1) := by decide +kernel
theorem zd_Tree_grow_13 : decode prog_1_method_7_code 13 = .ok (.istore_n 2, 1) := by decide +kernel
theorem zd_Tree_grow_14 : decode prog_1_method_7_code 14 = .ok (.iconst 0, 1) := by decide +kernel
theorem zd_Tree_grow_15 : decode prog_1_method_7_code 15 = .ok (.istore_n 3, 1) := by decide +kernel
theorem zd_Tree_grow_16 : decode prog_1_method_7_code 16 = .ok (.iload_n 3, 1) := by decide +kernel
theorem zd_Tree_grow_17 : decode prog_1_method_7_code 17 = .ok (.iload_n 1, 1) := by decide +kernel
theorem zd_Tree_grow_18 : decode prog_1_method_7_code 18 = .ok (.if_icmp .ge 32, 3) := by decide +kernel
theorem zd_Tree_grow_21 : decode prog_1_method_7_code 21 = .ok (.aload_n 0, 1) := by decide +kernel
theorem zd_Tree_grow_22 : decode prog_1_method_7_code 22 = .ok (.getfield 33, 3) := by decide +kernel
theorem zd_Tree_grow_25 : decode prog_1_method_7_code 25 = .ok (.invokevirtual 116, 3) := by decide +kernel
theorem zd_Tree_grow_28 : decode prog_1_method_7_code 28 = .ok (.istore 4, 2) := by decide +kernel
theorem zd_Tree_grow_30 : decode prog_1_method_7_code 30 = .ok (.iload 4, 2) := by decide +kernel
theorem zd_Tree_grow_32 : decode prog_1_method_7_code 32 = .ok (.ifCond .eq 12, 3) := by decide +kernel
theorem zd_Tree_grow_35 : decode prog_1_method_7_code 35 = .ok (.aload_n 0, 1) := by decide +kernel
theorem zd_Tree_grow_36 : decode prog_1_method_7_code 36 = .ok (.iload 4, 2) := by decide +kernel
theorem zd_Tree_grow_38 : decode prog_1_method_7_code 38 = .ok (.invokevirtual 119, 3) := by decide +kernel
theorem zd_Tree_grow_41 : decode prog_1_method_7_code 41 = .ok (.iinc 2 1, 3) := by decide +kernel
theorem zd_Tree_grow_44 : decode prog_1_method_7_code 44 = .ok (.iinc 3 1, 3) := by decide +kernel
theorem zd_Tree_grow_47 : decode prog_1_method_7_code 47 = .ok (.goto (-31), 3) := by decide +kernel
theorem zd_Tree_grow_50 : decode prog_1_method_7_code 50 = .ok (.iload_n 2, 1) := by decide +kernel
theorem zd_Tree_grow_51 : decode prog_1_method_7_code 51 = .ok (.ireturn, 1) := by decide +kernel
def zm_Tree_makeTurn : zg_M := (⟨"SurrogateTree", "makeTurn", "(I)V"⟩, prog_1_method_25_code, 5, none)
theorem zd_Tree_makeTurn_0 : decode prog_1_method_25_code 0 = .ok (.iload_n 1, 1) := by decide +kernel
theorem zd_Tree_makeTurn_1 : decode prog_1_method_25_code 1 = .ok (.iconst 1, 1) := by decide +kernel
theorem zd_Tree_makeTurn_2 : decode prog_1_method_25_code 2 = .ok (.aload_n 0, 1) := by decide +kernel
theorem zd_Tree_makeTurn_3 : decode prog_1_method_25_code 3 = .ok (.getfield 69, 3) := by decide +kernel
theorem zd_Tree_makeTurn_6 : decode prog_1_method_25_code 6 = .ok (.ishl, 1) := by decide +kernel
theorem zd_Tree_makeTurn_7 : decode prog_1_method_25_code 7 = .ok (.if_icmp .lt 7, 3) := by decide +kernel
theorem zd_Tree_makeTurn_10 : decode prog_1_method_25_code 10 = .ok (.iconst 1, 1) := by decide +kernel
theorem zd_Tree_makeTurn_11 : decode prog_1_method_25_code 11 = .ok (.goto 4, 3) := by decide +kernel
theorem zd_Tree_makeTurn_14 : decode prog_1_method_25_code 14 = .ok (.iconst 0, 1) := by decide +kernel
theorem zd_Tree_makeTurn_15 : decode prog_1_method_25_code 15 = .ok (.istore_n 2, 1) := by decide +kernel
theorem zd_Tree_makeTurn_16 : decode prog_1_method_25_code 16 = .ok (.aload_n 0, 1) := by decide +kernel
theorem zd_Tree_makeTurn_17 : decode prog_1_method_25_code 17 = .ok (.getfield 25, 3) := by decide +kernel
theorem zd_Tree_makeTurn_20 : decode prog_1_method_25_code 20 = .ok (.iload_n 1, 1) := by decide +kernel
theorem zd_Tree_makeTurn_21 : decode prog_1_method_25_code 21 = .ok (.aaload, 1) := by decide +kernel
theorem zd_Tree_makeTurn_22 : decode prog_1_method_25_code 22 = .ok (.astore_n 3, 1) := by decide +kernel
theorem zd_Tree_makeTurn_23 : decode prog_1_method_25_code 23 = .ok (.iload_n 2, 1) := by decide +kernel
theorem zd_Tree_makeTurn_24 : decode prog_1_method_25_code 24 = .ok (.ifCond .ne 26, 3) := by decide +kernel
theorem zd_Tree_makeTurn_27 : decode prog_1_method_25_code 27 = .ok (.aload_n 0, 1) := by decide +kernel
theorem zd_Tree_makeTurn_28 : decode prog_1_method_25_code 28 = .ok (.getfield 43, 3) := by decide +kernel
theorem zd_Tree_makeTurn_31 : decode prog_1_method_25_code 31 = .ok (.aload_n 0, 1) := by decide +kernel
theorem zd_Tree_makeTurn_32 : decode prog_1_method_25_code 32 = .ok (.getfield 10, 3) := by decide +kernel
theorem zd_Tree_makeTurn_35 : decode prog_1_method_25_code 35 = .ok (.aload_n 3, 1) := by decide +kernel
theorem zd_Tree_makeTurn_36 : decode prog_1_method_25_code 36 = .ok (.aload_n 0, 1) := by decide +kernel
theorem zd_Tree_makeTurn_37 : decode prog_1_method_25_code 37 = .ok (.getfield 65, 3) := by decide +kernel
theorem zd_Tree_makeTurn_40 : decode prog_1_method_25_code 40 = .ok (.aload_n 0, 1) := by decide +kernel
theorem zd_Tree_makeTurn_41 : decode prog_1_method_25_code 41 = .ok (.getfield 72, 3) := by decide +kernel
theorem zd_Tree_makeTurn_44 : decode prog_1_method_25_code 44 = .ok (.invokevirtual 222, 3) := by decide +kernel
theorem zd_Tree_makeTurn_47 : decode prog_1_method_25_code 47 = .ok (.ifCond .ne 14, 3) := by decide +kernel
theorem zd_Tree_makeTurn_50 : decode prog_1_method_25_code 50 = .ok (.aload_n 0, 1) := by decide +kernel
theorem zd_Tree_makeTurn_51 : decode prog_1_method_25_code 51 = .ok (.getfield 33, 3) := by decide +kernel
theorem zd_Tree_makeTurn_54 : decode prog_1_method_25_code 54 = .ok (.getfield 219, 3) := by decide +kernel
theorem zd_Tree_makeTurn_57 : decode prog_1_method_25_code 57 = .ok (.iload_n 1, 1) := by decide +kernel
theorem zd_Tree_makeTurn_58 : decode prog_1_method_25_code 58 = .ok (.iconst 1, 1) := by decide +kernel
theorem zd_Tree_makeTurn_59 : decode prog_1_method_25_code 59 = .ok (.iastore, 1) := by decide +kernel
theorem zd_Tree_makeTurn_60 : decode prog_1_method_25_code 60 = .ok (.return_, 1) := by decide +kernel
theorem zd_Tree_makeTurn_61 : decode prog_1_method_25_code 61 = .ok (.aload_n 0, 1) := by decide +kernel
theorem zd_Tree_makeTurn_62 : decode prog_1_method_25_code 62 = .ok (.getfield 50, 3) := by decide +kernel
theorem zd_Tree_makeTurn_65 : decode prog_1_method_25_code 65 = .ok (.aload_n 0, 1) := by decide +kernel
theorem zd_Tree_makeTurn_66 : decode prog_1_method_25_code 66 = .ok (.getfield 10, 3) := by decide +kernel
theorem zd_Tree_makeTurn_69 : decode prog_1_method_25_code 69 = .ok (.aload_n 3, 1) := by decide +kernel
theorem zd_Tree_makeTurn_70 : decode prog_1_method_25_code 70 = .ok (.invokevirtual 226, 3) := by decide +kernel
theorem zd_Tree_makeTurn_73 : decode prog_1_method_25_code 73 = .ok (.aload_n 0, 1) := by decide +kernel
theorem zd_Tree_makeTurn_74 : decode prog_1_method_25_code 74 = .ok (.getfield 33, 3) := by decide +kernel
theorem zd_Tree_makeTurn_77 : decode prog_1_method_25_code 77 = .ok (.getfield 219, 3) := by decide +kernel
theorem zd_Tree_makeTurn_80 : decode prog_1_method_25_code 80 = .ok (.iload_n 1, 1) := by decide +kernel
theorem zd_Tree_makeTurn_81 : decode prog_1_method_25_code 81 = .ok (.iconst 2, 1) := by decide +kernel
theorem zd_Tree_makeTurn_82 : decode prog_1_method_25_code 82 = .ok (.iastore, 1) := by decide +kernel
theorem zd_Tree_makeTurn_83 : decode prog_1_method_25_code 83 = .ok (.aload_n 3, 1) := by decide +kernel
theorem zd_Tree_makeTurn_84 : decode prog_1_method_25_code 84 = .ok (.aload_n 0, 1) := by decide +kernel
theorem zd_Tree_makeTurn_85 : decode prog_1_method_25_code 85 = .ok (.getfield 10, 3) := by decide +kernel
theorem zd_Tree_makeTurn_88 : decode prog_1_method_25_code 88 = .ok (.invokevirtual 230, 3) := by decide +kernel
theorem zd_Tree_makeTurn_91 : decode prog_1_method_25_code 91 = .ok (.istore 4, 2) := by decide +kernel
theorem zd_Tree_makeTurn_93 : decode prog_1_method_25_code 93 = .ok (.aload_n 0, 1) := by decide +kernel
theorem zd_Tree_makeTurn_94 : decode prog_1_method_25_code 94 = .ok (.iconst 2, 1) := by decide +kernel
theorem zd_Tree_makeTurn_95 : decode prog_1_method_25_code 95 = .ok (.iload_n 1, 1) := by decide +kernel
theorem zd_Tree_makeTurn_96 : decode prog_1_method_25_code 96 = .ok (.imul, 1) := by decide +kernel
theorem zd_Tree_makeTurn_97 : decode prog_1_method_25_code 97 = .ok (.iload 4, 2) := by decide +kernel
theorem zd_Tree_makeTurn_99 : decode prog_1_method_25_code 99 = .ok (.invokevirtual 212, 3) := by decide +kernel
theorem zd_Tree_makeTurn_102 : decode prog_1_method_25_code 102 = .ok (.aload_n 0, 1) := by decide +kernel
theorem zd_Tree_makeTurn_103 : decode prog_1_method_25_code 103 = .ok (.iconst 2, 1) := by decide +kernel
theorem zd_Tree_makeTurn_104 : decode prog_1_method_25_code 104 = .ok (.iload_n 1, 1) := by decide +kernel
theorem zd_Tree_makeTurn_105 : decode prog_1_method_25_code 105 = .ok (.imul, 1) := by decide +kernel
theorem zd_Tree_makeTurn_106 : decode prog_1_method_25_code 106 = .ok (.iconst 1, 1) := by decide +kernel
theorem zd_Tree_makeTurn_107 : decode prog_1_method_25_code 107 = .ok (.iadd, 1) := by decide +kernel
theorem zd_Tree_makeTurn_108 : decode prog_1_method_25_code 108 = .ok (.aload_n 3, 1) := by decide +kernel
theorem zd_Tree_makeTurn_109 : decode prog_1_method_25_code 109 = .ok (.getfield 162, 3) := by decide +kernel
theorem zd_Tree_makeTurn_112 : decode prog_1_method_25_code 112 = .ok (.iload 4, 2) := by decide +kernel
theorem zd_Tree_makeTurn_114 : decode prog_1_method_25_code 114 = .ok (.iconst (-1), 1) := by decide +kernel
theorem zd_Tree_makeTurn_115 : decode prog_1_method_25_code 115 = .ok (.ixor, 1) := by decide +kernel
theorem zd_Tree_makeTurn_116 : decode prog_1_method_25_code 116 = .ok (.iand, 1) := by decide +kernel
theorem zd_Tree_makeTurn_117 : decode prog_1_method_25_code 117 = .ok (.invokevirtual 212, 3) := by decide +kernel
theorem zd_Tree_makeTurn_120 : decode prog_1_method_25_code 120 = .ok (.return_, 1) := by decide +kernel
def zm_SplitSearch_findBest : zg_M := (⟨"SurrogateTree$SplitSearch", "findBest", "(LSurrogateTree$Table;LSurrogateTree$Node;II)Z"⟩, prog_8_method_2_code, 8, (some .boolean))
theorem zd_SplitSearch_findBest_0 : decode prog_8_method_2_code 0 = .ok (.aload_n 2, 1) := by decide +kernel
theorem zd_SplitSearch_findBest_1 : decode prog_8_method_2_code 1 = .ok (.getfield 32, 3) := by decide +kernel
theorem zd_SplitSearch_findBest_4 : decode prog_8_method_2_code 4 = .ok (.lconst 0, 1) := by decide +kernel
theorem zd_SplitSearch_findBest_5 : decode prog_8_method_2_code 5 = .ok (.lconst 1, 1) := by decide +kernel
theorem zd_SplitSearch_findBest_6 : decode prog_8_method_2_code 6 = .ok (.invokevirtual 37, 3) := by decide +kernel
theorem zd_SplitSearch_findBest_9 : decode prog_8_method_2_code 9 = .ok (.iconst 0, 1) := by decide +kernel
theorem zd_SplitSearch_findBest_10 : decode prog_8_method_2_code 10 = .ok (.istore 5, 2) := by decide +kernel
theorem zd_SplitSearch_findBest_12 : decode prog_8_method_2_code 12 = .ok (.iload 5, 2) := by decide +kernel
theorem zd_SplitSearch_findBest_14 : decode prog_8_method_2_code 14 = .ok (.iconst 3, 1) := by decide +kernel
theorem zd_SplitSearch_findBest_15 : decode prog_8_method_2_code 15 = .ok (.if_icmp .ge 117, 3) := by decide +kernel
theorem zd_SplitSearch_findBest_18 : decode prog_8_method_2_code 18 = .ok (.aload_n 1, 1) := by decide +kernel
theorem zd_SplitSearch_findBest_19 : decode prog_8_method_2_code 19 = .ok (.aload_n 2, 1) := by decide +kernel
theorem zd_SplitSearch_findBest_20 : decode prog_8_method_2_code 20 = .ok (.getfield 41, 3) := by decide +kernel
theorem zd_SplitSearch_findBest_23 : decode prog_8_method_2_code 23 = .ok (.iload 5, 2) := by decide +kernel
theorem zd_SplitSearch_findBest_25 : decode prog_8_method_2_code 25 = .ok (.invokevirtual 45, 3) := by decide +kernel
theorem zd_SplitSearch_findBest_28 : decode prog_8_method_2_code 28 = .ok (.istore 6, 2) := by decide +kernel
theorem zd_SplitSearch_findBest_30 : decode prog_8_method_2_code 30 = .ok (.aload_n 0, 1) := by decide +kernel
theorem zd_SplitSearch_findBest_31 : decode prog_8_method_2_code 31 = .ok (.getfield 12, 3) := by decide +kernel
theorem zd_SplitSearch_findBest_34 : decode prog_8_method_2_code 34 = .ok (.aload_n 1, 1) := by decide +kernel
theorem zd_SplitSearch_findBest_35 : decode prog_8_method_2_code 35 = .ok (.iload 6, 2) := by decide +kernel
theorem zd_SplitSearch_findBest_37 : decode prog_8_method_2_code 37 = .ok (.iload 5, 2) := by decide +kernel
theorem zd_SplitSearch_findBest_39 : decode prog_8_method_2_code 39 = .ok (.invokevirtual 51, 3) := by decide +kernel
theorem zd_SplitSearch_findBest_42 : decode prog_8_method_2_code 42 = .ok (.iconst 0, 1) := by decide +kernel
theorem zd_SplitSearch_findBest_43 : decode prog_8_method_2_code 43 = .ok (.istore 7, 2) := by decide +kernel
theorem zd_SplitSearch_findBest_45 : decode prog_8_method_2_code 45 = .ok (.iload 7, 2) := by decide +kernel
theorem zd_SplitSearch_findBest_47 : decode prog_8_method_2_code 47 = .ok (.aload_n 0, 1) := by decide +kernel
theorem zd_SplitSearch_findBest_48 : decode prog_8_method_2_code 48 = .ok (.getfield 12, 3) := by decide +kernel
theorem zd_SplitSearch_findBest_51 : decode prog_8_method_2_code 51 = .ok (.invokevirtual 55, 3) := by decide +kernel
theorem zd_SplitSearch_findBest_54 : decode prog_8_method_2_code 54 = .ok (.if_icmp .ge 72, 3) := by decide +kernel
theorem zd_SplitSearch_findBest_57 : decode prog_8_method_2_code 57 = .ok (.aload_n 0, 1) := by decide +kernel
theorem zd_SplitSearch_findBest_58 : decode prog_8_method_2_code 58 = .ok (.aload_n 1, 1) := by decide +kernel
theorem zd_SplitSearch_findBest_59 : decode prog_8_method_2_code 59 = .ok (.iload 6, 2) := by decide +kernel
theorem zd_SplitSearch_findBest_61 : decode prog_8_method_2_code 61 = .ok (.aload_n 1, 1) := by decide +kernel
theorem zd_SplitSearch_findBest_62 : decode prog_8_method_2_code 62 = .ok (.iload 6, 2) := by decide +kernel
theorem zd_SplitSearch_findBest_64 : decode prog_8_method_2_code 64 = .ok (.iload 5, 2) := by decide +kernel
theorem zd_SplitSearch_findBest_66 : decode prog_8_method_2_code 66 = .ok (.aload_n 0, 1) := by decide +kernel
theorem zd_SplitSearch_findBest_67 : decode prog_8_method_2_code 67 = .ok (.getfield 12, 3) := by decide +kernel
theorem zd_SplitSearch_findBest_70 : decode prog_8_method_2_code 70 = .ok (.iload 7, 2) := by decide +kernel
theorem zd_SplitSearch_findBest_72 : decode prog_8_method_2_code 72 = .ok (.invokevirtual 59, 3) := by decide +kernel
theorem zd_SplitSearch_findBest_75 : decode prog_8_method_2_code 75 = .ok (.invokevirtual 63, 3) := by decide +kernel
theorem zd_SplitSearch_findBest_78 : decode prog_8_method_2_code 78 = .ok (.invokevirtual 67, 3) := by decide +kernel
theorem zd_SplitSearch_findBest_81 : decode prog_8_method_2_code 81 = .ok (.aload_n 0, 1) := by decide +kernel
theorem zd_SplitSearch_findBest_82 : decode prog_8_method_2_code 82 = .ok (.getfield 70, 3) := by decide +kernel
theorem zd_SplitSearch_findBest_85 : decode prog_8_method_2_code 85 = .ok (.iload 4, 2) := by decide +kernel
theorem zd_SplitSearch_findBest_87 : decode prog_8_method_2_code 87 = .ok (.if_icmp .lt 33, 3) := by decide +kernel
theorem zd_SplitSearch_findBest_90 : decode prog_8_method_2_code 90 = .ok (.aload_n 0, 1) := by decide +kernel
theorem zd_SplitSearch_findBest_91 : decode prog_8_method_2_code 91 = .ok (.getfield 73, 3) := by decide +kernel
theorem zd_SplitSearch_findBest_94 : decode prog_8_method_2_code 94 = .ok (.iload 4, 2) := by decide +kernel
theorem zd_SplitSearch_findBest_96 : decode prog_8_method_2_code 96 = .ok (.if_icmp .lt 24, 3) := by decide +kernel
theorem zd_SplitSearch_findBest_99 : decode prog_8_method_2_code 99 = .ok (.aload_n 0, 1) := by decide +kernel
theorem zd_SplitSearch_findBest_100 : decode prog_8_method_2_code 100 = .ok (.iload_n 3, 1) := by decide +kernel
theorem zd_SplitSearch_findBest_101 : decode prog_8_method_2_code 101 = .ok (.invokevirtual 76, 3) := by decide +kernel
theorem zd_SplitSearch_findBest_104 : decode prog_8_method_2_code 104 = .ok (.aload_n 0, 1) := by decide +kernel
theorem zd_SplitSearch_findBest_105 : decode prog_8_method_2_code 105 = .ok (.aload_n 2, 1) := by decide +kernel
theorem zd_SplitSearch_findBest_106 : decode prog_8_method_2_code 106 = .ok (.iload 5, 2) := by decide +kernel
theorem zd_SplitSearch_findBest_108 : decode prog_8_method_2_code 108 = .ok (.aload_n 0, 1) := by decide +kernel
theorem zd_SplitSearch_findBest_109 : decode prog_8_method_2_code 109 = .ok (.getfield 12, 3) := by decide +kernel
theorem zd_SplitSearch_findBest_112 : decode prog_8_method_2_code 112 = .ok (.iload 7, 2) := by decide +kernel
theorem zd_SplitSearch_findBest_114 : decode prog_8_method_2_code 114 = .ok (.invokevirtual 59, 3) := by decide +kernel
theorem zd_SplitSearch_findBest_117 : decode prog_8_method_2_code 117 = .ok (.invokevirtual 80, 3) := by decide +kernel
theorem zd_SplitSearch_findBest_120 : decode prog_8_method_2_code 120 = .ok (.iinc 7 1, 3) := by decide +kernel
theorem zd_SplitSearch_findBest_123 : decode prog_8_method_2_code 123 = .ok (.goto (-78), 3) := by decide +kernel
theorem zd_SplitSearch_findBest_126 : decode prog_8_method_2_code 126 = .ok (.iinc 5 1, 3) := by decide +kernel
theorem zd_SplitSearch_findBest_129 : decode prog_8_method_2_code 129 = .ok (.goto (-117), 3) := by decide +kernel
theorem zd_SplitSearch_findBest_132 : decode prog_8_method_2_code 132 = .ok (.aload_n 2, 1) := by decide +kernel
theorem zd_SplitSearch_findBest_133 : decode prog_8_method_2_code 133 = .ok (.getfield 32, 3) := by decide +kernel
theorem zd_SplitSearch_findBest_136 : decode prog_8_method_2_code 136 = .ok (.getfield 84, 3) := by decide +kernel
theorem zd_SplitSearch_findBest_139 : decode prog_8_method_2_code 139 = .ok (.lconst 0, 1) := by decide +kernel
theorem zd_SplitSearch_findBest_140 : decode prog_8_method_2_code 140 = .ok (.lcmp, 1) := by decide +kernel
theorem zd_SplitSearch_findBest_141 : decode prog_8_method_2_code 141 = .ok (.ifCond .le 7, 3) := by decide +kernel
theorem zd_SplitSearch_findBest_144 : decode prog_8_method_2_code 144 = .ok (.iconst 1, 1) := by decide +kernel
theorem zd_SplitSearch_findBest_145 : decode prog_8_method_2_code 145 = .ok (.goto 4, 3) := by decide +kernel
theorem zd_SplitSearch_findBest_148 : decode prog_8_method_2_code 148 = .ok (.iconst 0, 1) := by decide +kernel
theorem zd_SplitSearch_findBest_149 : decode prog_8_method_2_code 149 = .ok (.ireturn, 1) := by decide +kernel
def zm_Math_max : zg_M := (⟨"java/lang/Math", "max", "(II)I"⟩, prog_15_method_65_code, 2, (some .int))
theorem zd_Math_max_0 : decode prog_15_method_65_code 0 = .ok (.iload_n 0, 1) := by decide +kernel
theorem zd_Math_max_1 : decode prog_15_method_65_code 1 = .ok (.iload_n 1, 1) := by decide +kernel
theorem zd_Math_max_2 : decode prog_15_method_65_code 2 = .ok (.if_icmp .lt 7, 3) := by decide +kernel
theorem zd_Math_max_5 : decode prog_15_method_65_code 5 = .ok (.iload_n 0, 1) := by decide +kernel
theorem zd_Math_max_6 : decode prog_15_method_65_code 6 = .ok (.goto 4, 3) := by decide +kernel
theorem zd_Math_max_9 : decode prog_15_method_65_code 9 = .ok (.iload_n 1, 1) := by decide +kernel
theorem zd_Math_max_10 : decode prog_15_method_65_code 10 = .ok (.ireturn, 1) := by decide +kernel
def zm_Math_floorDiv : zg_M := (⟨"java/lang/Math", "floorDiv", "(JJ)J"⟩, prog_15_method_49_code, 6, (some .long))
theorem zd_Math_floorDiv_0 : decode prog_15_method_49_code 0 = .ok (.lload_n 0, 1) := by decide +kernel
theorem zd_Math_floorDiv_1 : decode prog_15_method_49_code 1 = .ok (.lload_n 2, 1) := by decide +kernel
theorem zd_Math_floorDiv_2 : decode prog_15_method_49_code 2 = .ok (.ldiv, 1) := by decide +kernel
theorem zd_Math_floorDiv_3 : decode prog_15_method_49_code 3 = .ok (.lstore 4, 2) := by decide +kernel
theorem zd_Math_floorDiv_5 : decode prog_15_method_49_code 5 = .ok (.lload_n 0, 1) := by decide +kernel
theorem zd_Math_floorDiv_6 : decode prog_15_method_49_code 6 = .ok (.lload_n 2, 1) := by decide +kernel
theorem zd_Math_floorDiv_7 : decode prog_15_method_49_code 7 = .ok (.lxor, 1) := by decide +kernel
theorem zd_Math_floorDiv_8 : decode prog_15_method_49_code 8 = .ok (.lconst 0, 1) := by decide +kernel
theorem zd_Math_floorDiv_9 : decode prog_15_method_49_code 9 = .ok (.lcmp, 1) := by decide +kernel
theorem zd_Math_floorDiv_10 : decode prog_15_method_49_code 10 = .ok (.ifCond .ge 17, 3) := by decide +kernel
theorem zd_Math_floorDiv_13 : decode prog_15_method_49_code 13 = .ok (.lload 4, 2) := by decide +kernel
theorem zd_Math_floorDiv_15 : decode prog_15_method_49_code 15 = .ok (.lload_n 2, 1) := by decide +kernel
theorem zd_Math_floorDiv_16 : decode prog_15_method_49_code 16 = .ok (.lmul, 1) := by decide +kernel
theorem zd_Math_floorDiv_17 : decode prog_15_method_49_code 17 = .ok (.lload_n 0, 1) := by decide +kernel
theorem zd_Math_floorDiv_18 : decode prog_15_method_49_code 18 = .ok (.lcmp, 1) := by decide +kernel
theorem zd_Math_floorDiv_19 : decode prog_15_method_49_code 19 = .ok (.ifCond .eq 8, 3) := by decide +kernel
theorem zd_Math_floorDiv_22 : decode prog_15_method_49_code 22 = .ok (.lload 4, 2) := by decide +kernel
theorem zd_Math_floorDiv_24 : decode prog_15_method_49_code 24 = .ok (.lconst 1, 1) := by decide +kernel
theorem zd_Math_floorDiv_25 : decode prog_15_method_49_code 25 = .ok (.lsub, 1) := by decide +kernel
theorem zd_Math_floorDiv_26 : decode prog_15_method_49_code 26 = .ok (.lreturn, 1) := by decide +kernel
theorem zd_Math_floorDiv_27 : decode prog_15_method_49_code 27 = .ok (.lload 4, 2) := by decide +kernel
theorem zd_Math_floorDiv_29 : decode prog_15_method_49_code 29 = .ok (.lreturn, 1) := by decide +kernel
def zm_SplitSearch_weighSides : zg_M := (⟨"SurrogateTree$SplitSearch", "weighSides", "(LSurrogateTree$Table;II)V"⟩, prog_8_method_3_code, 6, none)
theorem zd_SplitSearch_weighSides_0 : decode prog_8_method_3_code 0 = .ok (.iload_n 2, 1) := by decide +kernel
theorem zd_SplitSearch_weighSides_1 : decode prog_8_method_3_code 1 = .ok (.iload_n 3, 1) := by decide +kernel
theorem zd_SplitSearch_weighSides_2 : decode prog_8_method_3_code 2 = .ok (.iconst (-1), 1) := by decide +kernel
theorem zd_SplitSearch_weighSides_3 : decode prog_8_method_3_code 3 = .ok (.ixor, 1) := by decide +kernel
theorem zd_SplitSearch_weighSides_4 : decode prog_8_method_3_code 4 = .ok (.iand, 1) := by decide +kernel
theorem zd_SplitSearch_weighSides_5 : decode prog_8_method_3_code 5 = .ok (.istore 4, 2) := by decide +kernel
theorem zd_SplitSearch_weighSides_7 : decode prog_8_method_3_code 7 = .ok (.iconst 0, 1) := by decide +kernel
theorem zd_SplitSearch_weighSides_8 : decode prog_8_method_3_code 8 = .ok (.istore 5, 2) := by decide +kernel
theorem zd_SplitSearch_weighSides_10 : decode prog_8_method_3_code 10 = .ok (.iload 5, 2) := by decide +kernel
theorem zd_SplitSearch_weighSides_12 : decode prog_8_method_3_code 12 = .ok (.iconst 4, 1) := by decide +kernel
theorem zd_SplitSearch_weighSides_13 : decode prog_8_method_3_code 13 = .ok (.if_icmp .ge 46, 3) := by decide +kernel
theorem zd_SplitSearch_weighSides_16 : decode prog_8_method_3_code 16 = .ok (.aload_n 0, 1) := by decide +kernel
theorem zd_SplitSearch_weighSides_17 : decode prog_8_method_3_code 17 = .ok (.getfield 18, 3) := by decide +kernel
theorem zd_SplitSearch_weighSides_20 : decode prog_8_method_3_code 20 = .ok (.iload 5, 2) := by decide +kernel
theorem zd_SplitSearch_weighSides_22 : decode prog_8_method_3_code 22 = .ok (.aload_n 1, 1) := by decide +kernel
theorem zd_SplitSearch_weighSides_23 : decode prog_8_method_3_code 23 = .ok (.aload_n 1, 1) := by decide +kernel
theorem zd_SplitSearch_weighSides_24 : decode prog_8_method_3_code 24 = .ok (.iload_n 3, 1) := by decide +kernel
theorem zd_SplitSearch_weighSides_25 : decode prog_8_method_3_code 25 = .ok (.iload 5, 2) := by decide +kernel
theorem zd_SplitSearch_weighSides_27 : decode prog_8_method_3_code 27 = .ok (.invokevirtual 88, 3) := by decide +kernel
theorem zd_SplitSearch_weighSides_30 : decode prog_8_method_3_code 30 = .ok (.invokevirtual 91, 3) := by decide +kernel
theorem zd_SplitSearch_weighSides_33 : decode prog_8_method_3_code 33 = .ok (.iastore, 1) := by decide +kernel
theorem zd_SplitSearch_weighSides_34 : decode prog_8_method_3_code 34 = .ok (.aload_n 0, 1) := by decide +kernel
theorem zd_SplitSearch_weighSides_35 : decode prog_8_method_3_code 35 = .ok (.getfield 22, 3) := by decide +kernel
theorem zd_SplitSearch_weighSides_38 : decode prog_8_method_3_code 38 = .ok (.iload 5, 2) := by decide +kernel
theorem zd_SplitSearch_weighSides_40 : decode prog_8_method_3_code 40 = .ok (.aload_n 1, 1) := by decide +kernel
theorem zd_SplitSearch_weighSides_41 : decode prog_8_method_3_code 41 = .ok (.aload_n 1, 1) := by decide +kernel
theorem zd_SplitSearch_weighSides_42 : decode prog_8_method_3_code 42 = .ok (.iload 4, 2) := by decide +kernel
theorem zd_SplitSearch_weighSides_44 : decode prog_8_method_3_code 44 = .ok (.iload 5, 2) := by decide +kernel
theorem zd_SplitSearch_weighSides_46 : decode prog_8_method_3_code 46 = .ok (.invokevirtual 88, 3) := by decide +kernel
theorem zd_SplitSearch_weighSides_49 : decode prog_8_method_3_code 49 = .ok (.invokevirtual 91, 3) := by decide +kernel
theorem zd_SplitSearch_weighSides_52 : decode prog_8_method_3_code 52 = .ok (.iastore, 1) := by decide +kernel
theorem zd_SplitSearch_weighSides_53 : decode prog_8_method_3_code 53 = .ok (.iinc 5 1, 3) := by decide +kernel
theorem zd_SplitSearch_weighSides_56 : decode prog_8_method_3_code 56 = .ok (.goto (-46), 3) := by decide +kernel
theorem zd_SplitSearch_weighSides_59 : decode prog_8_method_3_code 59 = .ok (.aload_n 0, 1) := by decide +kernel
theorem zd_SplitSearch_weighSides_60 : decode prog_8_method_3_code 60 = .ok (.aload_n 1, 1) := by decide +kernel
theorem zd_SplitSearch_weighSides_61 : decode prog_8_method_3_code 61 = .ok (.iload_n 3, 1) := by decide +kernel
theorem zd_SplitSearch_weighSides_62 : decode prog_8_method_3_code 62 = .ok (.invokevirtual 91, 3) := by decide +kernel
theorem zd_SplitSearch_weighSides_65 : decode prog_8_method_3_code 65 = .ok (.putfield 70, 3) := by decide +kernel
theorem zd_SplitSearch_weighSides_68 : decode prog_8_method_3_code 68 = .ok (.aload_n 0, 1) := by decide +kernel
theorem zd_SplitSearch_weighSides_69 : decode prog_8_method_3_code 69 = .ok (.aload_n 1, 1) := by decide +kernel
theorem zd_SplitSearch_weighSides_70 : decode prog_8_method_3_code 70 = .ok (.iload 4, 2) := by decide +kernel
theorem zd_SplitSearch_weighSides_72 : decode prog_8_method_3_code 72 = .ok (.invokevirtual 91, 3) := by decide +kernel
theorem zd_SplitSearch_weighSides_75 : decode prog_8_method_3_code 75 = .ok (.putfield 73, 3) := by decide +kernel
theorem zd_SplitSearch_weighSides_78 : decode prog_8_method_3_code 78 = .ok (.return_, 1) := by decide +kernel
def zm_SplitSearch_measure : zg_M := (⟨"SurrogateTree$SplitSearch", "measure", "(I)V"⟩, prog_8_method_5_code, 2, none)
theorem zd_SplitSearch_measure_0 : decode prog_8_method_5_code 0 = .ok (.iload_n 1, 1) := by decide +kernel
theorem zd_SplitSearch_measure_1 : decode prog_8_method_5_code 1 = .ok (.ifCond .ne 10, 3) := by decide +kernel
theorem zd_SplitSearch_measure_4 : decode prog_8_method_5_code 4 = .ok (.aload_n 0, 1) := by decide +kernel
theorem zd_SplitSearch_measure_5 : decode prog_8_method_5_code 5 = .ok (.invokevirtual 112, 3) := by decide +kernel
theorem zd_SplitSearch_measure_8 : decode prog_8_method_5_code 8 = .ok (.goto 19, 3) := by decide +kernel
theorem zd_SplitSearch_measure_11 : decode prog_8_method_5_code 11 = .ok (.iload_n 1, 1) := by decide +kernel
theorem zd_SplitSearch_measure_12 : decode prog_8_method_5_code 12 = .ok (.iconst 1, 1) := by decide +kernel
theorem zd_SplitSearch_measure_13 : decode prog_8_method_5_code 13 = .ok (.if_icmp .ne 10, 3) := by decide +kernel
theorem zd_SplitSearch_measure_16 : decode prog_8_method_5_code 16 = .ok (.aload_n 0, 1) := by decide +kernel
theorem zd_SplitSearch_measure_17 : decode prog_8_method_5_code 17 = .ok (.invokevirtual 115, 3) := by decide +kernel
theorem zd_SplitSearch_measure_20 : decode prog_8_method_5_code 20 = .ok (.goto 7, 3) := by decide +kernel
theorem zd_SplitSearch_measure_23 : decode prog_8_method_5_code 23 = .ok (.aload_n 0, 1) := by decide +kernel
theorem zd_SplitSearch_measure_24 : decode prog_8_method_5_code 24 = .ok (.invokevirtual 118, 3) := by decide +kernel
theorem zd_SplitSearch_measure_27 : decode prog_8_method_5_code 27 = .ok (.return_, 1) := by decide +kernel
def zm_SplitSearch_measureSquares : zg_M := (⟨"SurrogateTree$SplitSearch", "measureSquares", "()V"⟩, prog_8_method_6_code, 13, none)
theorem zd_SplitSearch_measureSquares_0 : decode prog_8_method_6_code 0 = .ok (.lconst 0, 1) := by decide +kernel
theorem zd_SplitSearch_measureSquares_1 : decode prog_8_method_6_code 1 = .ok (.lstore_n 1, 1) := by decide +kernel
theorem zd_SplitSearch_measureSquares_2 : decode prog_8_method_6_code 2 = .ok (.lconst 0, 1) := by decide +kernel
theorem zd_SplitSearch_measureSquares_3 : decode prog_8_method_6_code 3 = .ok (.lstore_n 3, 1) := by decide +kernel
theorem zd_SplitSearch_measureSquares_4 : decode prog_8_method_6_code 4 = .ok (.lconst 0, 1) := by decide +kernel
theorem zd_SplitSearch_measureSquares_5 : decode prog_8_method_6_code 5 = .ok (.lstore 5, 2) := by decide +kernel
theorem zd_SplitSearch_measureSquares_7 : decode prog_8_method_6_code 7 = .ok (.iconst 0, 1) := by decide +kernel
theorem zd_SplitSearch_measureSquares_8 : decode prog_8_method_6_code 8 = .ok (.istore 7, 2) := by decide +kernel
theorem zd_SplitSearch_measureSquares_10 : decode prog_8_method_6_code 10 = .ok (.iload 7, 2) := by decide +kernel
theorem zd_SplitSearch_measureSquares_12 : decode prog_8_method_6_code 12 = .ok (.iconst 4, 1) := by decide +kernel
theorem zd_SplitSearch_measureSquares_13 : decode prog_8_method_6_code 13 = .ok (.if_icmp .ge 75, 3) := by decide +kernel
theorem zd_SplitSearch_measureSquares_16 : decode prog_8_method_6_code 16 = .ok (.aload_n 0, 1) := by decide +kernel
theorem zd_SplitSearch_measureSquares_17 : decode prog_8_method_6_code 17 = .ok (.getfield 18, 3) := by decide +kernel
theorem zd_SplitSearch_measureSquares_20 : decode prog_8_method_6_code 20 = .ok (.iload 7, 2) := by decide +kernel
theorem zd_SplitSearch_measureSquares_22 : decode prog_8_method_6_code 22 = .ok (.iaload, 1) := by decide +kernel
theorem zd_SplitSearch_measureSquares_23 : decode prog_8_method_6_code 23 = .ok (.aload_n 0, 1) := by decide +kernel
theorem zd_SplitSearch_measureSquares_24 : decode prog_8_method_6_code 24 = .ok (.getfield 22, 3) := by decide +kernel
theorem zd_SplitSearch_measureSquares_27 : decode prog_8_method_6_code 27 = .ok (.iload 7, 2) := by decide +kernel
theorem zd_SplitSearch_measureSquares_29 : decode prog_8_method_6_code 29 = .ok (.iaload, 1) := by decide +kernel
theorem zd_SplitSearch_measureSquares_30 : decode prog_8_method_6_code 30 = .ok (.iadd, 1) := by decide +kernel
theorem zd_SplitSearch_measureSquares_31 : decode prog_8_method_6_code 31 = .ok (.istore 8, 2) := by decide +kernel
theorem zd_SplitSearch_measureSquares_33 : decode prog_8_method_6_code 33 = .ok (.lload_n 1, 1) := by decide +kernel
theorem zd_SplitSearch_measureSquares_34 : decode prog_8_method_6_code 34 = .ok (.aload_n 0, 1) := by decide +kernel
theorem zd_SplitSearch_measureSquares_35 : decode prog_8_method_6_code 35 = .ok (.getfield 18, 3) := by decide +kernel
theorem zd_SplitSearch_measureSquares_38 : decode prog_8_method_6_code 38 = .ok (.iload 7, 2) := by decide +kernel
theorem zd_SplitSearch_measureSquares_40 : decode prog_8_method_6_code 40 = .ok (.iaload, 1) := by decide +kernel
theorem zd_SplitSearch_measureSquares_41 : decode prog_8_method_6_code 41 = .ok (.aload_n 0, 1) := by decide +kernel
theorem zd_SplitSearch_measureSquares_42 : decode prog_8_method_6_code 42 = .ok (.getfield 18, 3) := by decide +kernel
theorem zd_SplitSearch_measureSquares_45 : decode prog_8_method_6_code 45 = .ok (.iload 7, 2) := by decide +kernel
theorem zd_SplitSearch_measureSquares_47 : decode prog_8_method_6_code 47 = .ok (.iaload, 1) := by decide +kernel
theorem zd_SplitSearch_measureSquares_48 : decode prog_8_method_6_code 48 = .ok (.imul, 1) := by decide +kernel
theorem zd_SplitSearch_measureSquares_49 : decode prog_8_method_6_code 49 = .ok (.i2l, 1) := by decide +kernel
theorem zd_SplitSearch_measureSquares_50 : decode prog_8_method_6_code 50 = .ok (.ladd, 1) := by decide +kernel
theorem zd_SplitSearch_measureSquares_51 : decode prog_8_method_6_code 51 = .ok (.lstore_n 1, 1) := by decide +kernel
theorem zd_SplitSearch_measureSquares_52 : decode prog_8_method_6_code 52 = .ok (.lload_n 3, 1) := by decide +kernel
theorem zd_SplitSearch_measureSquares_53 : decode prog_8_method_6_code 53 = .ok (.aload_n 0, 1) := by decide +kernel
theorem zd_SplitSearch_measureSquares_54 : decode prog_8_method_6_code 54 = .ok (.getfield 22, 3) := by decide +kernel
theorem zd_SplitSearch_measureSquares_57 : decode prog_8_method_6_code 57 = .ok (.iload 7, 2) := by decide +kernel
theorem zd_SplitSearch_measureSquares_59 : decode prog_8_method_6_code 59 = .ok (.iaload, 1) := by decide +kernel
theorem zd_SplitSearch_measureSquares_60 : decode prog_8_method_6_code 60 = .ok (.aload_n 0, 1) := by decide +kernel
theorem zd_SplitSearch_measureSquares_61 : decode prog_8_method_6_code 61 = .ok (.getfield 22, 3) := by decide +kernel
theorem zd_SplitSearch_measureSquares_64 : decode prog_8_method_6_code 64 = .ok (.iload 7, 2) := by decide +kernel
theorem zd_SplitSearch_measureSquares_66 : decode prog_8_method_6_code 66 = .ok (.iaload, 1) := by decide +kernel
theorem zd_SplitSearch_measureSquares_67 : decode prog_8_method_6_code 67 = .ok (.imul, 1) := by decide +kernel
theorem zd_SplitSearch_measureSquares_68 : decode prog_8_method_6_code 68 = .ok (.i2l, 1) := by decide +kernel
theorem zd_SplitSearch_measureSquares_69 : decode prog_8_method_6_code 69 = .ok (.ladd, 1) := by decide +kernel
theorem zd_SplitSearch_measureSquares_70 : decode prog_8_method_6_code 70 = .ok (.lstore_n 3, 1) := by decide +kernel
theorem zd_SplitSearch_measureSquares_71 : decode prog_8_method_6_code 71 = .ok (.lload 5, 2) := by decide +kernel
theorem zd_SplitSearch_measureSquares_73 : decode prog_8_method_6_code 73 = .ok (.iload 8, 2) := by decide +kernel
theorem zd_SplitSearch_measureSquares_75 : decode prog_8_method_6_code 75 = .ok (.iload 8, 2) := by decide +kernel
theorem zd_SplitSearch_measureSquares_77 : decode prog_8_method_6_code 77 = .ok (.imul, 1) := by decide +kernel
theorem zd_SplitSearch_measureSquares_78 : decode prog_8_method_6_code 78 = .ok (.i2l, 1) := by decide +kernel
theorem zd_SplitSearch_measureSquares_79 : decode prog_8_method_6_code 79 = .ok (.ladd, 1) := by decide +kernel
theorem zd_SplitSearch_measureSquares_80 : decode prog_8_method_6_code 80 = .ok (.lstore 5, 2) := by decide +kernel
theorem zd_SplitSearch_measureSquares_82 : decode prog_8_method_6_code 82 = .ok (.iinc 7 1, 3) := by decide +kernel
theorem zd_SplitSearch_measureSquares_85 : decode prog_8_method_6_code 85 = .ok (.goto (-75), 3) := by decide +kernel
theorem zd_SplitSearch_measureSquares_88 : decode prog_8_method_6_code 88 = .ok (.aload_n 0, 1) := by decide +kernel
theorem zd_SplitSearch_measureSquares_89 : decode prog_8_method_6_code 89 = .ok (.getfield 70, 3) := by decide +kernel
theorem zd_SplitSearch_measureSquares_92 : decode prog_8_method_6_code 92 = .ok (.aload_n 0, 1) := by decide +kernel
theorem zd_SplitSearch_measureSquares_93 : decode prog_8_method_6_code 93 = .ok (.getfield 73, 3) := by decide +kernel
theorem zd_SplitSearch_measureSquares_96 : decode prog_8_method_6_code 96 = .ok (.iadd, 1) := by decide +kernel
theorem zd_SplitSearch_measureSquares_97 : decode prog_8_method_6_code 97 = .ok (.i2l, 1) := by decide +kernel
theorem zd_SplitSearch_measureSquares_98 : decode prog_8_method_6_code 98 = .ok (.lstore 7, 2) := by decide +kernel
theorem zd_SplitSearch_measureSquares_100 : decode prog_8_method_6_code 100 = .ok (.aload_n 0, 1) := by decide +kernel
theorem zd_SplitSearch_measureSquares_101 : decode prog_8_method_6_code 101 = .ok (.getfield 70, 3) := by decide +kernel
theorem zd_SplitSearch_measureSquares_104 : decode prog_8_method_6_code 104 = .ok (.aload_n 0, 1) := by decide +kernel
theorem zd_SplitSearch_measureSquares_105 : decode prog_8_method_6_code 105 = .ok (.getfield 73, 3) := by decide +kernel
theorem zd_SplitSearch_measureSquares_108 : decode prog_8_method_6_code 108 = .ok (.imul, 1) := by decide +kernel
theorem zd_SplitSearch_measureSquares_109 : decode prog_8_method_6_code 109 = .ok (.i2l, 1) := by decide +kernel
theorem zd_SplitSearch_measureSquares_110 : decode prog_8_method_6_code 110 = .ok (.lstore 9, 2) := by decide +kernel
theorem zd_SplitSearch_measureSquares_112 : decode prog_8_method_6_code 112 = .ok (.lload_n 1, 1) := by decide +kernel
theorem zd_SplitSearch_measureSquares_113 : decode prog_8_method_6_code 113 = .ok (.aload_n 0, 1) := by decide +kernel
theorem zd_SplitSearch_measureSquares_114 : decode prog_8_method_6_code 114 = .ok (.getfield 73, 3) := by decide +kernel
theorem zd_SplitSearch_measureSquares_117 : decode prog_8_method_6_code 117 = .ok (.i2l, 1) := by decide +kernel
theorem zd_SplitSearch_measureSquares_118 : decode prog_8_method_6_code 118 = .ok (.lmul, 1) := by decide +kernel
theorem zd_SplitSearch_measureSquares_119 : decode prog_8_method_6_code 119 = .ok (.lload_n 3, 1) := by decide +kernel
theorem zd_SplitSearch_measureSquares_120 : decode prog_8_method_6_code 120 = .ok (.aload_n 0, 1) := by decide +kernel
theorem zd_SplitSearch_measureSquares_121 : decode prog_8_method_6_code 121 = .ok (.getfield 70, 3) := by decide +kernel
theorem zd_SplitSearch_measureSquares_124 : decode prog_8_method_6_code 124 = .ok (.i2l, 1) := by decide +kernel
theorem zd_SplitSearch_measureSquares_125 : decode prog_8_method_6_code 125 = .ok (.lmul, 1) := by decide +kernel
theorem zd_SplitSearch_measureSquares_126 : decode prog_8_method_6_code 126 = .ok (.ladd, 1) := by decide +kernel
theorem zd_SplitSearch_measureSquares_127 : decode prog_8_method_6_code 127 = .ok (.lload 7, 2) := by decide +kernel
theorem zd_SplitSearch_measureSquares_129 : decode prog_8_method_6_code 129 = .ok (.lmul, 1) := by decide +kernel
theorem zd_SplitSearch_measureSquares_130 : decode prog_8_method_6_code 130 = .ok (.lload 5, 2) := by decide +kernel
theorem zd_SplitSearch_measureSquares_132 : decode prog_8_method_6_code 132 = .ok (.lload 9, 2) := by decide +kernel
theorem zd_SplitSearch_measureSquares_134 : decode prog_8_method_6_code 134 = .ok (.lmul, 1) := by decide +kernel
theorem zd_SplitSearch_measureSquares_135 : decode prog_8_method_6_code 135 = .ok (.lsub, 1) := by decide +kernel
theorem zd_SplitSearch_measureSquares_136 : decode prog_8_method_6_code 136 = .ok (.lstore 11, 2) := by decide +kernel
theorem zd_SplitSearch_measureSquares_138 : decode prog_8_method_6_code 138 = .ok (.aload_n 0, 1) := by decide +kernel
theorem zd_SplitSearch_measureSquares_139 : decode prog_8_method_6_code 139 = .ok (.getfield 28, 3) := by decide +kernel
theorem zd_SplitSearch_measureSquares_142 : decode prog_8_method_6_code 142 = .ok (.lload 11, 2) := by decide +kernel
theorem zd_SplitSearch_measureSquares_144 : decode prog_8_method_6_code 144 = .ok (.lload 9, 2) := by decide +kernel
theorem zd_SplitSearch_measureSquares_146 : decode prog_8_method_6_code 146 = .ok (.lload 7, 2) := by decide +kernel
theorem zd_SplitSearch_measureSquares_148 : decode prog_8_method_6_code 148 = .ok (.lmul, 1) := by decide +kernel
theorem zd_SplitSearch_measureSquares_149 : decode prog_8_method_6_code 149 = .ok (.invokevirtual 37, 3) := by decide +kernel
theorem zd_SplitSearch_measureSquares_152 : decode prog_8_method_6_code 152 = .ok (.return_, 1) := by decide +kernel
def zm_SplitSearch_measureMajorities : zg_M := (⟨"SurrogateTree$SplitSearch", "measureMajorities", "()V"⟩, prog_8_method_7_code, 5, none)
theorem zd_SplitSearch_measureMajorities_0 : decode prog_8_method_7_code 0 = .ok (.iconst 0, 1) := by decide +kernel
theorem zd_SplitSearch_measureMajorities_1 : decode prog_8_method_7_code 1 = .ok (.istore_n 1, 1) := by decide +kernel
theorem zd_SplitSearch_measureMajorities_2 : decode prog_8_method_7_code 2 = .ok (.iconst 0, 1) := by decide +kernel
theorem zd_SplitSearch_measureMajorities_3 : decode prog_8_method_7_code 3 = .ok (.istore_n 2, 1) := by decide +kernel
theorem zd_SplitSearch_measureMajorities_4 : decode prog_8_method_7_code 4 = .ok (.iconst 0, 1) := by decide +kernel
theorem zd_SplitSearch_measureMajorities_5 : decode prog_8_method_7_code 5 = .ok (.istore_n 3, 1) := by decide +kernel
theorem zd_SplitSearch_measureMajorities_6 : decode prog_8_method_7_code 6 = .ok (.iconst 0, 1) := by decide +kernel
theorem zd_SplitSearch_measureMajorities_7 : decode prog_8_method_7_code 7 = .ok (.istore 4, 2) := by decide +kernel
theorem zd_SplitSearch_measureMajorities_9 : decode prog_8_method_7_code 9 = .ok (.iload 4, 2) := by decide +kernel
theorem zd_SplitSearch_measureMajorities_11 : decode prog_8_method_7_code 11 = .ok (.iconst 4, 1) := by decide +kernel
theorem zd_SplitSearch_measureMajorities_12 : decode prog_8_method_7_code 12 = .ok (.if_icmp .ge 53, 3) := by decide +kernel
theorem zd_SplitSearch_measureMajorities_15 : decode prog_8_method_7_code 15 = .ok (.iload_n 1, 1) := by decide +kernel
theorem zd_SplitSearch_measureMajorities_16 : decode prog_8_method_7_code 16 = .ok (.aload_n 0, 1) := by decide +kernel
theorem zd_SplitSearch_measureMajorities_17 : decode prog_8_method_7_code 17 = .ok (.getfield 18, 3) := by decide +kernel
theorem zd_SplitSearch_measureMajorities_20 : decode prog_8_method_7_code 20 = .ok (.iload 4, 2) := by decide +kernel
theorem zd_SplitSearch_measureMajorities_22 : decode prog_8_method_7_code 22 = .ok (.iaload, 1) := by decide +kernel
theorem zd_SplitSearch_measureMajorities_23 : decode prog_8_method_7_code 23 = .ok (.invokestatic 121, 3) := by decide +kernel
theorem zd_SplitSearch_measureMajorities_26 : decode prog_8_method_7_code 26 = .ok (.istore_n 1, 1) := by decide +kernel
theorem zd_SplitSearch_measureMajorities_27 : decode prog_8_method_7_code 27 = .ok (.iload_n 2, 1) := by decide +kernel
theorem zd_SplitSearch_measureMajorities_28 : decode prog_8_method_7_code 28 = .ok (.aload_n 0, 1) := by decide +kernel
theorem zd_SplitSearch_measureMajorities_29 : decode prog_8_method_7_code 29 = .ok (.getfield 22, 3) := by decide +kernel
theorem zd_SplitSearch_measureMajorities_32 : decode prog_8_method_7_code 32 = .ok (.iload 4, 2) := by decide +kernel
theorem zd_SplitSearch_measureMajorities_34 : decode prog_8_method_7_code 34 = .ok (.iaload, 1) := by decide +kernel
theorem zd_SplitSearch_measureMajorities_35 : decode prog_8_method_7_code 35 = .ok (.invokestatic 121, 3) := by decide +kernel
theorem zd_SplitSearch_measureMajorities_38 : decode prog_8_method_7_code 38 = .ok (.istore_n 2, 1) := by decide +kernel
theorem zd_SplitSearch_measureMajorities_39 : decode prog_8_method_7_code 39 = .ok (.iload_n 3, 1) := by decide +kernel
theorem zd_SplitSearch_measureMajorities_40 : decode prog_8_method_7_code 40 = .ok (.aload_n 0, 1) := by decide +kernel
theorem zd_SplitSearch_measureMajorities_41 : decode prog_8_method_7_code 41 = .ok (.getfield 18, 3) := by decide +kernel
theorem zd_SplitSearch_measureMajorities_44 : decode prog_8_method_7_code 44 = .ok (.iload 4, 2) := by decide +kernel
theorem zd_SplitSearch_measureMajorities_46 : decode prog_8_method_7_code 46 = .ok (.iaload, 1) := by decide +kernel
theorem zd_SplitSearch_measureMajorities_47 : decode prog_8_method_7_code 47 = .ok (.aload_n 0, 1) := by decide +kernel
theorem zd_SplitSearch_measureMajorities_48 : decode prog_8_method_7_code 48 = .ok (.getfield 22, 3) := by decide +kernel
theorem zd_SplitSearch_measureMajorities_51 : decode prog_8_method_7_code 51 = .ok (.iload 4, 2) := by decide +kernel
theorem zd_SplitSearch_measureMajorities_53 : decode prog_8_method_7_code 53 = .ok (.iaload, 1) := by decide +kernel
theorem zd_SplitSearch_measureMajorities_54 : decode prog_8_method_7_code 54 = .ok (.iadd, 1) := by decide +kernel
theorem zd_SplitSearch_measureMajorities_55 : decode prog_8_method_7_code 55 = .ok (.invokestatic 121, 3) := by decide +kernel
theorem zd_SplitSearch_measureMajorities_58 : decode prog_8_method_7_code 58 = .ok (.istore_n 3, 1) := by decide +kernel
theorem zd_SplitSearch_measureMajorities_59 : decode prog_8_method_7_code 59 = .ok (.iinc 4 1, 3) := by decide +kernel
theorem zd_SplitSearch_measureMajorities_62 : decode prog_8_method_7_code 62 = .ok (.goto (-53), 3) := by decide +kernel
theorem zd_SplitSearch_measureMajorities_65 : decode prog_8_method_7_code 65 = .ok (.aload_n 0, 1) := by decide +kernel
theorem zd_SplitSearch_measureMajorities_66 : decode prog_8_method_7_code 66 = .ok (.getfield 28, 3) := by decide +kernel
theorem zd_SplitSearch_measureMajorities_69 : decode prog_8_method_7_code 69 = .ok (.iload_n 1, 1) := by decide +kernel
theorem zd_SplitSearch_measureMajorities_70 : decode prog_8_method_7_code 70 = .ok (.iload_n 2, 1) := by decide +kernel
theorem zd_SplitSearch_measureMajorities_71 : decode prog_8_method_7_code 71 = .ok (.iadd, 1) := by decide +kernel
theorem zd_SplitSearch_measureMajorities_72 : decode prog_8_method_7_code 72 = .ok (.iload_n 3, 1) := by decide +kernel
theorem zd_SplitSearch_measureMajorities_73 : decode prog_8_method_7_code 73 = .ok (.isub, 1) := by decide +kernel
theorem zd_SplitSearch_measureMajorities_74 : decode prog_8_method_7_code 74 = .ok (.i2l, 1) := by decide +kernel
theorem zd_SplitSearch_measureMajorities_75 : decode prog_8_method_7_code 75 = .ok (.lconst 1, 1) := by decide +kernel
theorem zd_SplitSearch_measureMajorities_76 : decode prog_8_method_7_code 76 = .ok (.invokevirtual 37, 3) := by decide +kernel
theorem zd_SplitSearch_measureMajorities_79 : decode prog_8_method_7_code 79 = .ok (.return_, 1) := by decide +kernel
def zm_SplitSearch_measureDistance : zg_M := (⟨"SurrogateTree$SplitSearch", "measureDistance", "()V"⟩, prog_8_method_8_code, 5, none)
theorem zd_SplitSearch_measureDistance_0 : decode prog_8_method_8_code 0 = .ok (.lconst 0, 1) := by decide +kernel
theorem zd_SplitSearch_measureDistance_1 : decode prog_8_method_8_code 1 = .ok (.lstore_n 1, 1) := by decide +kernel
theorem zd_SplitSearch_measureDistance_2 : decode prog_8_method_8_code 2 = .ok (.iconst 0, 1) := by decide +kernel
theorem zd_SplitSearch_measureDistance_3 : decode prog_8_method_8_code 3 = .ok (.istore_n 3, 1) := by decide +kernel
theorem zd_SplitSearch_measureDistance_4 : decode prog_8_method_8_code 4 = .ok (.iload_n 3, 1) := by decide +kernel
theorem zd_SplitSearch_measureDistance_5 : decode prog_8_method_8_code 5 = .ok (.iconst 4, 1) := by decide +kernel
theorem zd_SplitSearch_measureDistance_6 : decode prog_8_method_8_code 6 = .ok (.if_icmp .ge 39, 3) := by decide +kernel
theorem zd_SplitSearch_measureDistance_9 : decode prog_8_method_8_code 9 = .ok (.lload_n 1, 1) := by decide +kernel
theorem zd_SplitSearch_measureDistance_10 : decode prog_8_method_8_code 10 = .ok (.aload_n 0, 1) := by decide +kernel
theorem zd_SplitSearch_measureDistance_11 : decode prog_8_method_8_code 11 = .ok (.getfield 18, 3) := by decide +kernel
theorem zd_SplitSearch_measureDistance_14 : decode prog_8_method_8_code 14 = .ok (.iload_n 3, 1) := by decide +kernel
theorem zd_SplitSearch_measureDistance_15 : decode prog_8_method_8_code 15 = .ok (.iaload, 1) := by decide +kernel
theorem zd_SplitSearch_measureDistance_16 : decode prog_8_method_8_code 16 = .ok (.aload_n 0, 1) := by decide +kernel
theorem zd_SplitSearch_measureDistance_17 : decode prog_8_method_8_code 17 = .ok (.getfield 73, 3) := by decide +kernel
theorem zd_SplitSearch_measureDistance_20 : decode prog_8_method_8_code 20 = .ok (.imul, 1) := by decide +kernel
theorem zd_SplitSearch_measureDistance_21 : decode prog_8_method_8_code 21 = .ok (.aload_n 0, 1) := by decide +kernel
theorem zd_SplitSearch_measureDistance_22 : decode prog_8_method_8_code 22 = .ok (.getfield 22, 3) := by decide +kernel
theorem zd_SplitSearch_measureDistance_25 : decode prog_8_method_8_code 25 = .ok (.iload_n 3, 1) := by decide +kernel
theorem zd_SplitSearch_measureDistance_26 : decode prog_8_method_8_code 26 = .ok (.iaload, 1) := by decide +kernel
theorem zd_SplitSearch_measureDistance_27 : decode prog_8_method_8_code 27 = .ok (.aload_n 0, 1) := by decide +kernel
theorem zd_SplitSearch_measureDistance_28 : decode prog_8_method_8_code 28 = .ok (.getfield 70, 3) := by decide +kernel
theorem zd_SplitSearch_measureDistance_31 : decode prog_8_method_8_code 31 = .ok (.imul, 1) := by decide +kernel
theorem zd_SplitSearch_measureDistance_32 : decode prog_8_method_8_code 32 = .ok (.isub, 1) := by decide +kernel
theorem zd_SplitSearch_measureDistance_33 : decode prog_8_method_8_code 33 = .ok (.invokestatic 126, 3) := by decide +kernel
theorem zd_SplitSearch_measureDistance_36 : decode prog_8_method_8_code 36 = .ok (.i2l, 1) := by decide +kernel
theorem zd_SplitSearch_measureDistance_37 : decode prog_8_method_8_code 37 = .ok (.ladd, 1) := by decide +kernel
theorem zd_SplitSearch_measureDistance_38 : decode prog_8_method_8_code 38 = .ok (.lstore_n 1, 1) := by decide +kernel
theorem zd_SplitSearch_measureDistance_39 : decode prog_8_method_8_code 39 = .ok (.iinc 3 1, 3) := by decide +kernel
theorem zd_SplitSearch_measureDistance_42 : decode prog_8_method_8_code 42 = .ok (.goto (-38), 3) := by decide +kernel
theorem zd_SplitSearch_measureDistance_45 : decode prog_8_method_8_code 45 = .ok (.aload_n 0, 1) := by decide +kernel
theorem zd_SplitSearch_measureDistance_46 : decode prog_8_method_8_code 46 = .ok (.getfield 70, 3) := by decide +kernel
theorem zd_SplitSearch_measureDistance_49 : decode prog_8_method_8_code 49 = .ok (.aload_n 0, 1) := by decide +kernel
theorem zd_SplitSearch_measureDistance_50 : decode prog_8_method_8_code 50 = .ok (.getfield 73, 3) := by decide +kernel
theorem zd_SplitSearch_measureDistance_53 : decode prog_8_method_8_code 53 = .ok (.iadd, 1) := by decide +kernel
theorem zd_SplitSearch_measureDistance_54 : decode prog_8_method_8_code 54 = .ok (.i2l, 1) := by decide +kernel
theorem zd_SplitSearch_measureDistance_55 : decode prog_8_method_8_code 55 = .ok (.lstore_n 3, 1) := by decide +kernel
theorem zd_SplitSearch_measureDistance_56 : decode prog_8_method_8_code 56 = .ok (.aload_n 0, 1) := by decide +kernel
theorem zd_SplitSearch_measureDistance_57 : decode prog_8_method_8_code 57 = .ok (.getfield 28, 3) := by decide +kernel
theorem zd_SplitSearch_measureDistance_60 : decode prog_8_method_8_code 60 = .ok (.lload_n 1, 1) := by decide +kernel
theorem zd_SplitSearch_measureDistance_61 : decode prog_8_method_8_code 61 = .ok (.lload_n 1, 1) := by decide +kernel
theorem zd_SplitSearch_measureDistance_62 : decode prog_8_method_8_code 62 = .ok (.lmul, 1) := by decide +kernel
theorem zd_SplitSearch_measureDistance_63 : decode prog_8_method_8_code 63 = .ok (.lload_n 3, 1) := by decide +kernel
theorem zd_SplitSearch_measureDistance_64 : decode prog_8_method_8_code 64 = .ok (.aload_n 0, 1) := by decide +kernel
theorem zd_SplitSearch_measureDistance_65 : decode prog_8_method_8_code 65 = .ok (.getfield 70, 3) := by decide +kernel
theorem zd_SplitSearch_measureDistance_68 : decode prog_8_method_8_code 68 = .ok (.i2l, 1) := by decide +kernel
theorem zd_SplitSearch_measureDistance_69 : decode prog_8_method_8_code 69 = .ok (.lmul, 1) := by decide +kernel
theorem zd_SplitSearch_measureDistance_70 : decode prog_8_method_8_code 70 = .ok (.aload_n 0, 1) := by decide +kernel
theorem zd_SplitSearch_measureDistance_71 : decode prog_8_method_8_code 71 = .ok (.getfield 73, 3) := by decide +kernel
theorem zd_SplitSearch_measureDistance_74 : decode prog_8_method_8_code 74 = .ok (.i2l, 1) := by decide +kernel
theorem zd_SplitSearch_measureDistance_75 : decode prog_8_method_8_code 75 = .ok (.lmul, 1) := by decide +kernel
theorem zd_SplitSearch_measureDistance_76 : decode prog_8_method_8_code 76 = .ok (.invokevirtual 37, 3) := by decide +kernel
theorem zd_SplitSearch_measureDistance_79 : decode prog_8_method_8_code 79 = .ok (.return_, 1) := by decide +kernel
def zm_Math_abs : zg_M := (⟨"java/lang/Math", "abs", "(I)I"⟩, prog_15_method_59_code, 1, (some .int))
theorem zd_Math_abs_0 : decode prog_15_method_59_code 0 = .ok (.iload_n 0, 1) := by decide +kernel
theorem zd_Math_abs_1 : decode prog_15_method_59_code 1 = .ok (.ifCond .ge 8, 3) := by decide +kernel
theorem zd_Math_abs_4 : decode prog_15_method_59_code 4 = .ok (.iload_n 0, 1) := by decide +kernel
theorem zd_Math_abs_5 : decode prog_15_method_59_code 5 = .ok (.ineg, 1) := by decide +kernel
theorem zd_Math_abs_6 : decode prog_15_method_59_code 6 = .ok (.goto 4, 3) := by decide +kernel
theorem zd_Math_abs_9 : decode prog_15_method_59_code 9 = .ok (.iload_n 0, 1) := by decide +kernel
theorem zd_Math_abs_10 : decode prog_15_method_59_code 10 = .ok (.ireturn, 1) := by decide +kernel
def zm_SplitSearch_offer : zg_M := (⟨"SurrogateTree$SplitSearch", "offer", "(LSurrogateTree$Node;II)V"⟩, prog_8_method_4_code, 4, none)
theorem zd_SplitSearch_offer_0 : decode prog_8_method_4_code 0 = .ok (.aload_n 0, 1) := by decide +kernel
theorem zd_SplitSearch_offer_1 : decode prog_8_method_4_code 1 = .ok (.getfield 28, 3) := by decide +kernel
theorem zd_SplitSearch_offer_4 : decode prog_8_method_4_code 4 = .ok (.aload_n 1, 1) := by decide +kernel
theorem zd_SplitSearch_offer_5 : decode prog_8_method_4_code 5 = .ok (.getfield 32, 3) := by decide +kernel
theorem zd_SplitSearch_offer_8 : decode prog_8_method_4_code 8 = .ok (.invokevirtual 94, 3) := by decide +kernel
theorem zd_SplitSearch_offer_11 : decode prog_8_method_4_code 11 = .ok (.ifCond .eq 44, 3) := by decide +kernel
theorem zd_SplitSearch_offer_14 : decode prog_8_method_4_code 14 = .ok (.aload_n 1, 1) := by decide +kernel
theorem zd_SplitSearch_offer_15 : decode prog_8_method_4_code 15 = .ok (.getfield 32, 3) := by decide +kernel
theorem zd_SplitSearch_offer_18 : decode prog_8_method_4_code 18 = .ok (.aload_n 0, 1) := by decide +kernel
theorem zd_SplitSearch_offer_19 : decode prog_8_method_4_code 19 = .ok (.getfield 28, 3) := by decide +kernel
theorem zd_SplitSearch_offer_22 : decode prog_8_method_4_code 22 = .ok (.invokevirtual 98, 3) := by decide +kernel
theorem zd_SplitSearch_offer_25 : decode prog_8_method_4_code 25 = .ok (.aload_n 1, 1) := by decide +kernel
theorem zd_SplitSearch_offer_26 : decode prog_8_method_4_code 26 = .ok (.iload_n 2, 1) := by decide +kernel
theorem zd_SplitSearch_offer_27 : decode prog_8_method_4_code 27 = .ok (.putfield 102, 3) := by decide +kernel
theorem zd_SplitSearch_offer_30 : decode prog_8_method_4_code 30 = .ok (.aload_n 1, 1) := by decide +kernel
theorem zd_SplitSearch_offer_31 : decode prog_8_method_4_code 31 = .ok (.iload_n 3, 1) := by decide +kernel
theorem zd_SplitSearch_offer_32 : decode prog_8_method_4_code 32 = .ok (.putfield 105, 3) := by decide +kernel
theorem zd_SplitSearch_offer_35 : decode prog_8_method_4_code 35 = .ok (.aload_n 1, 1) := by decide +kernel
theorem zd_SplitSearch_offer_36 : decode prog_8_method_4_code 36 = .ok (.aload_n 0, 1) := by decide +kernel
theorem zd_SplitSearch_offer_37 : decode prog_8_method_4_code 37 = .ok (.getfield 70, 3) := by decide +kernel
theorem zd_SplitSearch_offer_40 : decode prog_8_method_4_code 40 = .ok (.aload_n 0, 1) := by decide +kernel
theorem zd_SplitSearch_offer_41 : decode prog_8_method_4_code 41 = .ok (.getfield 73, 3) := by decide +kernel
theorem zd_SplitSearch_offer_44 : decode prog_8_method_4_code 44 = .ok (.if_icmp .lt 7, 3) := by decide +kernel
theorem zd_SplitSearch_offer_47 : decode prog_8_method_4_code 47 = .ok (.iconst 1, 1) := by decide +kernel
theorem zd_SplitSearch_offer_48 : decode prog_8_method_4_code 48 = .ok (.goto 4, 3) := by decide +kernel
theorem zd_SplitSearch_offer_51 : decode prog_8_method_4_code 51 = .ok (.iconst 0, 1) := by decide +kernel
theorem zd_SplitSearch_offer_52 : decode prog_8_method_4_code 52 = .ok (.putfield 108, 3) := by decide +kernel
theorem zd_SplitSearch_offer_55 : decode prog_8_method_4_code 55 = .ok (.return_, 1) := by decide +kernel
def zm_StandInSearch_findFor : zg_M := (⟨"SurrogateTree$StandInSearch", "findFor", "(LSurrogateTree$Table;LSurrogateTree$Node;)V"⟩, prog_10_method_2_code, 4, none)
theorem zd_StandInSearch_findFor_0 : decode prog_10_method_2_code 0 = .ok (.aload_n 2, 1) := by decide +kernel
theorem zd_StandInSearch_findFor_1 : decode prog_10_method_2_code 1 = .ok (.iconst 0, 1) := by decide +kernel
theorem zd_StandInSearch_findFor_2 : decode prog_10_method_2_code 2 = .ok (.putfield 25, 3) := by decide +kernel
theorem zd_StandInSearch_findFor_5 : decode prog_10_method_2_code 5 = .ok (.iconst 0, 1) := by decide +kernel
theorem zd_StandInSearch_findFor_6 : decode prog_10_method_2_code 6 = .ok (.istore_n 3, 1) := by decide +kernel
theorem zd_StandInSearch_findFor_7 : decode prog_10_method_2_code 7 = .ok (.iload_n 3, 1) := by decide +kernel
theorem zd_StandInSearch_findFor_8 : decode prog_10_method_2_code 8 = .ok (.iconst 3, 1) := by decide +kernel
theorem zd_StandInSearch_findFor_9 : decode prog_10_method_2_code 9 = .ok (.if_icmp .ge 35, 3) := by decide +kernel
theorem zd_StandInSearch_findFor_12 : decode prog_10_method_2_code 12 = .ok (.iload_n 3, 1) := by decide +kernel
theorem zd_StandInSearch_findFor_13 : decode prog_10_method_2_code 13 = .ok (.aload_n 2, 1) := by decide +kernel
theorem zd_StandInSearch_findFor_14 : decode prog_10_method_2_code 14 = .ok (.getfield 31, 3) := by decide +kernel
theorem zd_StandInSearch_findFor_17 : decode prog_10_method_2_code 17 = .ok (.if_icmp .eq 21, 3) := by decide +kernel
theorem zd_StandInSearch_findFor_20 : decode prog_10_method_2_code 20 = .ok (.aload_n 0, 1) := by decide +kernel
theorem zd_StandInSearch_findFor_21 : decode prog_10_method_2_code 21 = .ok (.aload_n 1, 1) := by decide +kernel
theorem zd_StandInSearch_findFor_22 : decode prog_10_method_2_code 22 = .ok (.aload_n 2, 1) := by decide +kernel
theorem zd_StandInSearch_findFor_23 : decode prog_10_method_2_code 23 = .ok (.iload_n 3, 1) := by decide +kernel
theorem zd_StandInSearch_findFor_24 : decode prog_10_method_2_code 24 = .ok (.invokevirtual 34, 3) := by decide +kernel
theorem zd_StandInSearch_findFor_27 : decode prog_10_method_2_code 27 = .ok (.ifCond .eq 11, 3) := by decide +kernel
theorem zd_StandInSearch_findFor_30 : decode prog_10_method_2_code 30 = .ok (.aload_n 2, 1) := by decide +kernel
theorem zd_StandInSearch_findFor_31 : decode prog_10_method_2_code 31 = .ok (.aload_n 0, 1) := by decide +kernel
theorem zd_StandInSearch_findFor_32 : decode prog_10_method_2_code 32 = .ok (.getfield 21, 3) := by decide +kernel
theorem zd_StandInSearch_findFor_35 : decode prog_10_method_2_code 35 = .ok (.invokevirtual 38, 3) := by decide +kernel
theorem zd_StandInSearch_findFor_38 : decode prog_10_method_2_code 38 = .ok (.iinc 3 1, 3) := by decide +kernel
theorem zd_StandInSearch_findFor_41 : decode prog_10_method_2_code 41 = .ok (.goto (-34), 3) := by decide +kernel
theorem zd_StandInSearch_findFor_44 : decode prog_10_method_2_code 44 = .ok (.return_, 1) := by decide +kernel
def zm_StandInSearch_findAt : zg_M := (⟨"SurrogateTree$StandInSearch", "findAt", "(LSurrogateTree$Table;LSurrogateTree$Node;I)Z"⟩, prog_10_method_3_code, 13, (some .boolean))
theorem zd_StandInSearch_findAt_0 : decode prog_10_method_3_code 0 = .ok (.aload_n 1, 1) := by decide +kernel
theorem zd_StandInSearch_findAt_1 : decode prog_10_method_3_code 1 = .ok (.aload_n 1, 1) := by decide +kernel
theorem zd_StandInSearch_findAt_2 : decode prog_10_method_3_code 2 = .ok (.aload_n 2, 1) := by decide +kernel
theorem zd_StandInSearch_findAt_3 : decode prog_10_method_3_code 3 = .ok (.getfield 42, 3) := by decide +kernel
theorem zd_StandInSearch_findAt_6 : decode prog_10_method_3_code 6 = .ok (.aload_n 2, 1) := by decide +kernel
theorem zd_StandInSearch_findAt_7 : decode prog_10_method_3_code 7 = .ok (.getfield 31, 3) := by decide +kernel
theorem zd_StandInSearch_findAt_10 : decode prog_10_method_3_code 10 = .ok (.invokevirtual 45, 3) := by decide +kernel
theorem zd_StandInSearch_findAt_13 : decode prog_10_method_3_code 13 = .ok (.iload_n 3, 1) := by decide +kernel
theorem zd_StandInSearch_findAt_14 : decode prog_10_method_3_code 14 = .ok (.invokevirtual 45, 3) := by decide +kernel
theorem zd_StandInSearch_findAt_17 : decode prog_10_method_3_code 17 = .ok (.istore 4, 2) := by decide +kernel
theorem zd_StandInSearch_findAt_19 : decode prog_10_method_3_code 19 = .ok (.aload_n 1, 1) := by decide +kernel
theorem zd_StandInSearch_findAt_20 : decode prog_10_method_3_code 20 = .ok (.iload 4, 2) := by decide +kernel
theorem zd_StandInSearch_findAt_22 : decode prog_10_method_3_code 22 = .ok (.aload_n 2, 1) := by decide +kernel
theorem zd_StandInSearch_findAt_23 : decode prog_10_method_3_code 23 = .ok (.getfield 31, 3) := by decide +kernel
theorem zd_StandInSearch_findAt_26 : decode prog_10_method_3_code 26 = .ok (.aload_n 2, 1) := by decide +kernel
theorem zd_StandInSearch_findAt_27 : decode prog_10_method_3_code 27 = .ok (.getfield 51, 3) := by decide +kernel
theorem zd_StandInSearch_findAt_30 : decode prog_10_method_3_code 30 = .ok (.invokevirtual 54, 3) := by decide +kernel
theorem zd_StandInSearch_findAt_33 : decode prog_10_method_3_code 33 = .ok (.istore 5, 2) := by decide +kernel
theorem zd_StandInSearch_findAt_35 : decode prog_10_method_3_code 35 = .ok (.aload_n 1, 1) := by decide +kernel
theorem zd_StandInSearch_findAt_36 : decode prog_10_method_3_code 36 = .ok (.iload 4, 2) := by decide +kernel
theorem zd_StandInSearch_findAt_38 : decode prog_10_method_3_code 38 = .ok (.invokevirtual 58, 3) := by decide +kernel
theorem zd_StandInSearch_findAt_41 : decode prog_10_method_3_code 41 = .ok (.istore 6, 2) := by decide +kernel
theorem zd_StandInSearch_findAt_43 : decode prog_10_method_3_code 43 = .ok (.aload_n 1, 1) := by decide +kernel
theorem zd_StandInSearch_findAt_44 : decode prog_10_method_3_code 44 = .ok (.iload 5, 2) := by decide +kernel
theorem zd_StandInSearch_findAt_46 : decode prog_10_method_3_code 46 = .ok (.invokevirtual 58, 3) := by decide +kernel
theorem zd_StandInSearch_findAt_49 : decode prog_10_method_3_code 49 = .ok (.istore 7, 2) := by decide +kernel
theorem zd_StandInSearch_findAt_51 : decode prog_10_method_3_code 51 = .ok (.iload 7, 2) := by decide +kernel
theorem zd_StandInSearch_findAt_53 : decode prog_10_method_3_code 53 = .ok (.iload 6, 2) := by decide +kernel
theorem zd_StandInSearch_findAt_55 : decode prog_10_method_3_code 55 = .ok (.iload 7, 2) := by decide +kernel
theorem zd_StandInSearch_findAt_57 : decode prog_10_method_3_code 57 = .ok (.isub, 1) := by decide +kernel
theorem zd_StandInSearch_findAt_58 : decode prog_10_method_3_code 58 = .ok (.invokestatic 62, 3) := by decide +kernel
theorem zd_StandInSearch_findAt_61 : decode prog_10_method_3_code 61 = .ok (.istore 8, 2) := by decide +kernel
theorem zd_StandInSearch_findAt_63 : decode prog_10_method_3_code 63 = .ok (.aload_n 0, 1) := by decide +kernel
theorem zd_StandInSearch_findAt_64 : decode prog_10_method_3_code 64 = .ok (.getfield 21, 3) := by decide +kernel
theorem zd_StandInSearch_findAt_67 : decode prog_10_method_3_code 67 = .ok (.iload_n 3, 1) := by decide +kernel
theorem zd_StandInSearch_findAt_68 : decode prog_10_method_3_code 68 = .ok (.putfield 67, 3) := by decide +kernel
theorem zd_StandInSearch_findAt_71 : decode prog_10_method_3_code 71 = .ok (.aload_n 0, 1) := by decide +kernel
theorem zd_StandInSearch_findAt_72 : decode prog_10_method_3_code 72 = .ok (.getfield 21, 3) := by decide +kernel
theorem zd_StandInSearch_findAt_75 : decode prog_10_method_3_code 75 = .ok (.iload 8, 2) := by decide +kernel
theorem zd_StandInSearch_findAt_77 : decode prog_10_method_3_code 77 = .ok (.putfield 68, 3) := by decide +kernel
theorem zd_StandInSearch_findAt_80 : decode prog_10_method_3_code 80 = .ok (.aload_n 0, 1) := by decide +kernel
theorem zd_StandInSearch_findAt_81 : decode prog_10_method_3_code 81 = .ok (.getfield 12, 3) := by decide +kernel
theorem zd_StandInSearch_findAt_84 : decode prog_10_method_3_code 84 = .ok (.aload_n 1, 1) := by decide +kernel
theorem zd_StandInSearch_findAt_85 : decode prog_10_method_3_code 85 = .ok (.iload 4, 2) := by decide +kernel
theorem zd_StandInSearch_findAt_87 : decode prog_10_method_3_code 87 = .ok (.iload_n 3, 1) := by decide +kernel
theorem zd_StandInSearch_findAt_88 : decode prog_10_method_3_code 88 = .ok (.invokevirtual 71, 3) := by decide +kernel
theorem zd_StandInSearch_findAt_91 : decode prog_10_method_3_code 91 = .ok (.iconst 0, 1) := by decide +kernel
theorem zd_StandInSearch_findAt_92 : decode prog_10_method_3_code 92 = .ok (.istore 9, 2) := by decide +kernel
theorem zd_StandInSearch_findAt_94 : decode prog_10_method_3_code 94 = .ok (.iload 9, 2) := by decide +kernel
theorem zd_StandInSearch_findAt_96 : decode prog_10_method_3_code 96 = .ok (.aload_n 0, 1) := by decide +kernel
theorem zd_StandInSearch_findAt_97 : decode prog_10_method_3_code 97 = .ok (.getfield 12, 3) := by decide +kernel
theorem zd_StandInSearch_findAt_100 : decode prog_10_method_3_code 100 = .ok (.invokevirtual 75, 3) := by decide +kernel
theorem zd_StandInSearch_findAt_103 : decode prog_10_method_3_code 103 = .ok (.if_icmp .ge 68, 3) := by decide +kernel
theorem zd_StandInSearch_findAt_106 : decode prog_10_method_3_code 106 = .ok (.aload_n 0, 1) := by decide +kernel
theorem zd_StandInSearch_findAt_107 : decode prog_10_method_3_code 107 = .ok (.getfield 12, 3) := by decide +kernel
theorem zd_StandInSearch_findAt_110 : decode prog_10_method_3_code 110 = .ok (.iload 9, 2) := by decide +kernel
theorem zd_StandInSearch_findAt_112 : decode prog_10_method_3_code 112 = .ok (.invokevirtual 79, 3) := by decide +kernel
theorem zd_StandInSearch_findAt_115 : decode prog_10_method_3_code 115 = .ok (.istore 10, 2) := by decide +kernel
theorem zd_StandInSearch_findAt_117 : decode prog_10_method_3_code 117 = .ok (.iload 4, 2) := by decide +kernel
theorem zd_StandInSearch_findAt_119 : decode prog_10_method_3_code 119 = .ok (.iload 5, 2) := by decide +kernel
theorem zd_StandInSearch_findAt_121 : decode prog_10_method_3_code 121 = .ok (.aload_n 1, 1) := by decide +kernel
theorem zd_StandInSearch_findAt_122 : decode prog_10_method_3_code 122 = .ok (.iload 4, 2) := by decide +kernel
theorem zd_StandInSearch_findAt_124 : decode prog_10_method_3_code 124 = .ok (.iload_n 3, 1) := by decide +kernel
theorem zd_StandInSearch_findAt_125 : decode prog_10_method_3_code 125 = .ok (.iload 10, 2) := by decide +kernel
theorem zd_StandInSearch_findAt_127 : decode prog_10_method_3_code 127 = .ok (.invokevirtual 54, 3) := by decide +kernel
theorem zd_StandInSearch_findAt_130 : decode prog_10_method_3_code 130 = .ok (.ixor, 1) := by decide +kernel
theorem zd_StandInSearch_findAt_131 : decode prog_10_method_3_code 131 = .ok (.iconst (-1), 1) := by decide +kernel
theorem zd_StandInSearch_findAt_132 : decode prog_10_method_3_code 132 = .ok (.ixor, 1) := by decide +kernel
theorem zd_StandInSearch_findAt_133 : decode prog_10_method_3_code 133 = .ok (.iand, 1) := by decide +kernel
theorem zd_StandInSearch_findAt_134 : decode prog_10_method_3_code 134 = .ok (.istore 11, 2) := by decide +kernel
theorem zd_StandInSearch_findAt_136 : decode prog_10_method_3_code 136 = .ok (.aload_n 1, 1) := by decide +kernel
theorem zd_StandInSearch_findAt_137 : decode prog_10_method_3_code 137 = .ok (.iload 11, 2) := by decide +kernel
theorem zd_StandInSearch_findAt_139 : decode prog_10_method_3_code 139 = .ok (.invokevirtual 58, 3) := by decide +kernel
theorem zd_StandInSearch_findAt_142 : decode prog_10_method_3_code 142 = .ok (.istore 12, 2) := by decide +kernel
theorem zd_StandInSearch_findAt_144 : decode prog_10_method_3_code 144 = .ok (.aload_n 0, 1) := by decide +kernel
theorem zd_StandInSearch_findAt_145 : decode prog_10_method_3_code 145 = .ok (.iload 10, 2) := by decide +kernel
theorem zd_StandInSearch_findAt_147 : decode prog_10_method_3_code 147 = .ok (.iconst 0, 1) := by decide +kernel
theorem zd_StandInSearch_findAt_148 : decode prog_10_method_3_code 148 = .ok (.iload 12, 2) := by decide +kernel
theorem zd_StandInSearch_findAt_150 : decode prog_10_method_3_code 150 = .ok (.invokevirtual 82, 3) := by decide +kernel
theorem zd_StandInSearch_findAt_153 : decode prog_10_method_3_code 153 = .ok (.aload_n 0, 1) := by decide +kernel
theorem zd_StandInSearch_findAt_154 : decode prog_10_method_3_code 154 = .ok (.iload 10, 2) := by decide +kernel
theorem zd_StandInSearch_findAt_156 : decode prog_10_method_3_code 156 = .ok (.iconst 1, 1) := by decide +kernel
theorem zd_StandInSearch_findAt_157 : decode prog_10_method_3_code 157 = .ok (.iload 6, 2) := by decide +kernel
theorem zd_StandInSearch_findAt_159 : decode prog_10_method_3_code 159 = .ok (.iload 12, 2) := by decide +kernel
theorem zd_StandInSearch_findAt_161 : decode prog_10_method_3_code 161 = .ok (.isub, 1) := by decide +kernel
theorem zd_StandInSearch_findAt_162 : decode prog_10_method_3_code 162 = .ok (.invokevirtual 82, 3) := by decide +kernel
theorem zd_StandInSearch_findAt_165 : decode prog_10_method_3_code 165 = .ok (.iinc 9 1, 3) := by decide +kernel
theorem zd_StandInSearch_findAt_168 : decode prog_10_method_3_code 168 = .ok (.goto (-74), 3) := by decide +kernel
theorem zd_StandInSearch_findAt_171 : decode prog_10_method_3_code 171 = .ok (.aload_n 0, 1) := by decide +kernel
theorem zd_StandInSearch_findAt_172 : decode prog_10_method_3_code 172 = .ok (.getfield 21, 3) := by decide +kernel
theorem zd_StandInSearch_findAt_175 : decode prog_10_method_3_code 175 = .ok (.getfield 68, 3) := by decide +kernel
theorem zd_StandInSearch_findAt_178 : decode prog_10_method_3_code 178 = .ok (.iload 8, 2) := by decide +kernel
theorem zd_StandInSearch_findAt_180 : decode prog_10_method_3_code 180 = .ok (.if_icmp .le 7, 3) := by decide +kernel
theorem zd_StandInSearch_findAt_183 : decode prog_10_method_3_code 183 = .ok (.iconst 1, 1) := by decide +kernel
theorem zd_StandInSearch_findAt_184 : decode prog_10_method_3_code 184 = .ok (.goto 4, 3) := by decide +kernel
theorem zd_StandInSearch_findAt_187 : decode prog_10_method_3_code 187 = .ok (.iconst 0, 1) := by decide +kernel
theorem zd_StandInSearch_findAt_188 : decode prog_10_method_3_code 188 = .ok (.ireturn, 1) := by decide +kernel
def zm_StandInSearch_offer : zg_M := (⟨"SurrogateTree$StandInSearch", "offer", "(IZI)V"⟩, prog_10_method_4_code, 4, none)
theorem zd_StandInSearch_offer_0 : decode prog_10_method_4_code 0 = .ok (.iload_n 3, 1) := by decide +kernel
theorem zd_StandInSearch_offer_1 : decode prog_10_method_4_code 1 = .ok (.aload_n 0, 1) := by decide +kernel
theorem zd_StandInSearch_offer_2 : decode prog_10_method_4_code 2 = .ok (.getfield 21, 3) := by decide +kernel
theorem zd_StandInSearch_offer_5 : decode prog_10_method_4_code 5 = .ok (.getfield 68, 3) := by decide +kernel
theorem zd_StandInSearch_offer_8 : decode prog_10_method_4_code 8 = .ok (.if_icmp .le 27, 3) := by decide +kernel
theorem zd_StandInSearch_offer_11 : decode prog_10_method_4_code 11 = .ok (.aload_n 0, 1) := by decide +kernel
theorem zd_StandInSearch_offer_12 : decode prog_10_method_4_code 12 = .ok (.getfield 21, 3) := by decide +kernel
theorem zd_StandInSearch_offer_15 : decode prog_10_method_4_code 15 = .ok (.iload_n 1, 1) := by decide +kernel
theorem zd_StandInSearch_offer_16 : decode prog_10_method_4_code 16 = .ok (.putfield 86, 3) := by decide +kernel
theorem zd_StandInSearch_offer_19 : decode prog_10_method_4_code 19 = .ok (.aload_n 0, 1) := by decide +kernel
theorem zd_StandInSearch_offer_20 : decode prog_10_method_4_code 20 = .ok (.getfield 21, 3) := by decide +kernel
theorem zd_StandInSearch_offer_23 : decode prog_10_method_4_code 23 = .ok (.iload_n 2, 1) := by decide +kernel
theorem zd_StandInSearch_offer_24 : decode prog_10_method_4_code 24 = .ok (.putfield 87, 3) := by decide +kernel
theorem zd_StandInSearch_offer_27 : decode prog_10_method_4_code 27 = .ok (.aload_n 0, 1) := by decide +kernel
theorem zd_StandInSearch_offer_28 : decode prog_10_method_4_code 28 = .ok (.getfield 21, 3) := by decide +kernel
theorem zd_StandInSearch_offer_31 : decode prog_10_method_4_code 31 = .ok (.iload_n 3, 1) := by decide +kernel
theorem zd_StandInSearch_offer_32 : decode prog_10_method_4_code 32 = .ok (.putfield 68, 3) := by decide +kernel
theorem zd_StandInSearch_offer_35 : decode prog_10_method_4_code 35 = .ok (.return_, 1) := by decide +kernel
def zm_Tree_kind : zg_M := (⟨"SurrogateTree", "kind", "(I)I"⟩, prog_1_method_8_code, 2, (some .int))
theorem zd_Tree_kind_0 : decode prog_1_method_8_code 0 = .ok (.aload_n 0, 1) := by decide +kernel
theorem zd_Tree_kind_1 : decode prog_1_method_8_code 1 = .ok (.getfield 122, 3) := by decide +kernel
theorem zd_Tree_kind_4 : decode prog_1_method_8_code 4 = .ok (.iload_n 1, 1) := by decide +kernel
theorem zd_Tree_kind_5 : decode prog_1_method_8_code 5 = .ok (.invokevirtual 125, 3) := by decide +kernel
theorem zd_Tree_kind_8 : decode prog_1_method_8_code 8 = .ok (.ireturn, 1) := by decide +kernel
def zm_Tree_rule : zg_M := (⟨"SurrogateTree", "rule", "(II)I"⟩, prog_1_method_9_code, 4, (some .int))
theorem zd_Tree_rule_0 : decode prog_1_method_9_code 0 = .ok (.aload_n 0, 1) := by decide +kernel
theorem zd_Tree_rule_1 : decode prog_1_method_9_code 1 = .ok (.getfield 122, 3) := by decide +kernel
theorem zd_Tree_rule_4 : decode prog_1_method_9_code 4 = .ok (.iload_n 1, 1) := by decide +kernel
theorem zd_Tree_rule_5 : decode prog_1_method_9_code 5 = .ok (.invokevirtual 125, 3) := by decide +kernel
theorem zd_Tree_rule_8 : decode prog_1_method_9_code 8 = .ok (.iconst 2, 1) := by decide +kernel
theorem zd_Tree_rule_9 : decode prog_1_method_9_code 9 = .ok (.if_icmp .eq 5, 3) := by decide +kernel
theorem zd_Tree_rule_12 : decode prog_1_method_9_code 12 = .ok (.iconst (-1), 1) := by decide +kernel
theorem zd_Tree_rule_13 : decode prog_1_method_9_code 13 = .ok (.ireturn, 1) := by decide +kernel
theorem zd_Tree_rule_14 : decode prog_1_method_9_code 14 = .ok (.aload_n 0, 1) := by decide +kernel
theorem zd_Tree_rule_15 : decode prog_1_method_9_code 15 = .ok (.getfield 25, 3) := by decide +kernel
theorem zd_Tree_rule_18 : decode prog_1_method_9_code 18 = .ok (.iload_n 1, 1) := by decide +kernel
theorem zd_Tree_rule_19 : decode prog_1_method_9_code 19 = .ok (.aaload, 1) := by decide +kernel
theorem zd_Tree_rule_20 : decode prog_1_method_9_code 20 = .ok (.astore_n 3, 1) := by decide +kernel
theorem zd_Tree_rule_21 : decode prog_1_method_9_code 21 = .ok (.iload_n 2, 1) := by decide +kernel
theorem zd_Tree_rule_22 : decode prog_1_method_9_code 22 = .ok (.ifCond .ne 8, 3) := by decide +kernel
theorem zd_Tree_rule_25 : decode prog_1_method_9_code 25 = .ok (.aload_n 3, 1) := by decide +kernel
theorem zd_Tree_rule_26 : decode prog_1_method_9_code 26 = .ok (.getfield 128, 3) := by decide +kernel
theorem zd_Tree_rule_29 : decode prog_1_method_9_code 29 = .ok (.ireturn, 1) := by decide +kernel
theorem zd_Tree_rule_30 : decode prog_1_method_9_code 30 = .ok (.aload_n 3, 1) := by decide +kernel
theorem zd_Tree_rule_31 : decode prog_1_method_9_code 31 = .ok (.iload_n 2, 1) := by decide +kernel
theorem zd_Tree_rule_32 : decode prog_1_method_9_code 32 = .ok (.invokevirtual 131, 3) := by decide +kernel
theorem zd_Tree_rule_35 : decode prog_1_method_9_code 35 = .ok (.ifCond .eq 17, 3) := by decide +kernel
theorem zd_Tree_rule_38 : decode prog_1_method_9_code 38 = .ok (.aload_n 3, 1) := by decide +kernel
theorem zd_Tree_rule_39 : decode prog_1_method_9_code 39 = .ok (.getfield 134, 3) := by decide +kernel
theorem zd_Tree_rule_42 : decode prog_1_method_9_code 42 = .ok (.iload_n 2, 1) := by decide +kernel
theorem zd_Tree_rule_43 : decode prog_1_method_9_code 43 = .ok (.iconst 1, 1) := by decide +kernel
theorem zd_Tree_rule_44 : decode prog_1_method_9_code 44 = .ok (.isub, 1) := by decide +kernel
theorem zd_Tree_rule_45 : decode prog_1_method_9_code 45 = .ok (.aaload, 1) := by decide +kernel
theorem zd_Tree_rule_46 : decode prog_1_method_9_code 46 = .ok (.invokevirtual 138, 3) := by decide +kernel
theorem zd_Tree_rule_49 : decode prog_1_method_9_code 49 = .ok (.goto 4, 3) := by decide +kernel
theorem zd_Tree_rule_52 : decode prog_1_method_9_code 52 = .ok (.iconst (-1), 1) := by decide +kernel
theorem zd_Tree_rule_53 : decode prog_1_method_9_code 53 = .ok (.ireturn, 1) := by decide +kernel
def zm_Tree_threshold : zg_M := (⟨"SurrogateTree", "threshold", "(II)I"⟩, prog_1_method_10_code, 4, (some .int))
theorem zd_Tree_threshold_0 : decode prog_1_method_10_code 0 = .ok (.aload_n 0, 1) := by decide +kernel
theorem zd_Tree_threshold_1 : decode prog_1_method_10_code 1 = .ok (.getfield 122, 3) := by decide +kernel
theorem zd_Tree_threshold_4 : decode prog_1_method_10_code 4 = .ok (.iload_n 1, 1) := by decide +kernel
theorem zd_Tree_threshold_5 : decode prog_1_method_10_code 5 = .ok (.invokevirtual 125, 3) := by decide +kernel
theorem zd_Tree_threshold_8 : decode prog_1_method_10_code 8 = .ok (.iconst 2, 1) := by decide +kernel
theorem zd_Tree_threshold_9 : decode prog_1_method_10_code 9 = .ok (.if_icmp .eq 5, 3) := by decide +kernel
theorem zd_Tree_threshold_12 : decode prog_1_method_10_code 12 = .ok (.iconst 0, 1) := by decide +kernel
theorem zd_Tree_threshold_13 : decode prog_1_method_10_code 13 = .ok (.ireturn, 1) := by decide +kernel
theorem zd_Tree_threshold_14 : decode prog_1_method_10_code 14 = .ok (.aload_n 0, 1) := by decide +kernel
theorem zd_Tree_threshold_15 : decode prog_1_method_10_code 15 = .ok (.getfield 25, 3) := by decide +kernel
theorem zd_Tree_threshold_18 : decode prog_1_method_10_code 18 = .ok (.iload_n 1, 1) := by decide +kernel
theorem zd_Tree_threshold_19 : decode prog_1_method_10_code 19 = .ok (.aaload, 1) := by decide +kernel
theorem zd_Tree_threshold_20 : decode prog_1_method_10_code 20 = .ok (.astore_n 3, 1) := by decide +kernel
theorem zd_Tree_threshold_21 : decode prog_1_method_10_code 21 = .ok (.iload_n 2, 1) := by decide +kernel
theorem zd_Tree_threshold_22 : decode prog_1_method_10_code 22 = .ok (.ifCond .ne 8, 3) := by decide +kernel
theorem zd_Tree_threshold_25 : decode prog_1_method_10_code 25 = .ok (.aload_n 3, 1) := by decide +kernel
theorem zd_Tree_threshold_26 : decode prog_1_method_10_code 26 = .ok (.getfield 143, 3) := by decide +kernel
theorem zd_Tree_threshold_29 : decode prog_1_method_10_code 29 = .ok (.ireturn, 1) := by decide +kernel
theorem zd_Tree_threshold_30 : decode prog_1_method_10_code 30 = .ok (.aload_n 3, 1) := by decide +kernel
theorem zd_Tree_threshold_31 : decode prog_1_method_10_code 31 = .ok (.iload_n 2, 1) := by decide +kernel
theorem zd_Tree_threshold_32 : decode prog_1_method_10_code 32 = .ok (.invokevirtual 131, 3) := by decide +kernel
theorem zd_Tree_threshold_35 : decode prog_1_method_10_code 35 = .ok (.ifCond .eq 17, 3) := by decide +kernel
theorem zd_Tree_threshold_38 : decode prog_1_method_10_code 38 = .ok (.aload_n 3, 1) := by decide +kernel
theorem zd_Tree_threshold_39 : decode prog_1_method_10_code 39 = .ok (.getfield 134, 3) := by decide +kernel
theorem zd_Tree_threshold_42 : decode prog_1_method_10_code 42 = .ok (.iload_n 2, 1) := by decide +kernel
theorem zd_Tree_threshold_43 : decode prog_1_method_10_code 43 = .ok (.iconst 1, 1) := by decide +kernel
theorem zd_Tree_threshold_44 : decode prog_1_method_10_code 44 = .ok (.isub, 1) := by decide +kernel
theorem zd_Tree_threshold_45 : decode prog_1_method_10_code 45 = .ok (.aaload, 1) := by decide +kernel
theorem zd_Tree_threshold_46 : decode prog_1_method_10_code 46 = .ok (.getfield 146, 3) := by decide +kernel
theorem zd_Tree_threshold_49 : decode prog_1_method_10_code 49 = .ok (.goto 4, 3) := by decide +kernel
theorem zd_Tree_threshold_52 : decode prog_1_method_10_code 52 = .ok (.iconst 0, 1) := by decide +kernel
theorem zd_Tree_threshold_53 : decode prog_1_method_10_code 53 = .ok (.ireturn, 1) := by decide +kernel
def zm_Tree_gain : zg_M := (⟨"SurrogateTree", "gain", "(I)J"⟩, prog_1_method_11_code, 3, (some .long))
theorem zd_Tree_gain_0 : decode prog_1_method_11_code 0 = .ok (.aload_n 0, 1) := by decide +kernel
theorem zd_Tree_gain_1 : decode prog_1_method_11_code 1 = .ok (.getfield 122, 3) := by decide +kernel
theorem zd_Tree_gain_4 : decode prog_1_method_11_code 4 = .ok (.iload_n 1, 1) := by decide +kernel
theorem zd_Tree_gain_5 : decode prog_1_method_11_code 5 = .ok (.invokevirtual 125, 3) := by decide +kernel
theorem zd_Tree_gain_8 : decode prog_1_method_11_code 8 = .ok (.iconst 2, 1) := by decide +kernel
theorem zd_Tree_gain_9 : decode prog_1_method_11_code 9 = .ok (.if_icmp .eq 5, 3) := by decide +kernel
theorem zd_Tree_gain_12 : decode prog_1_method_11_code 12 = .ok (.lconst 0, 1) := by decide +kernel
theorem zd_Tree_gain_13 : decode prog_1_method_11_code 13 = .ok (.lreturn, 1) := by decide +kernel
theorem zd_Tree_gain_14 : decode prog_1_method_11_code 14 = .ok (.aload_n 0, 1) := by decide +kernel
theorem zd_Tree_gain_15 : decode prog_1_method_11_code 15 = .ok (.getfield 25, 3) := by decide +kernel
theorem zd_Tree_gain_18 : decode prog_1_method_11_code 18 = .ok (.iload_n 1, 1) := by decide +kernel
theorem zd_Tree_gain_19 : decode prog_1_method_11_code 19 = .ok (.aaload, 1) := by decide +kernel
theorem zd_Tree_gain_20 : decode prog_1_method_11_code 20 = .ok (.getfield 147, 3) := by decide +kernel
theorem zd_Tree_gain_23 : decode prog_1_method_11_code 23 = .ok (.astore_n 2, 1) := by decide +kernel
theorem zd_Tree_gain_24 : decode prog_1_method_11_code 24 = .ok (.aload_n 2, 1) := by decide +kernel
theorem zd_Tree_gain_25 : decode prog_1_method_11_code 25 = .ok (.getfield 151, 3) := by decide +kernel
theorem zd_Tree_gain_28 : decode prog_1_method_11_code 28 = .ok (.ldc2_w 157, 3) := by decide +kernel
theorem zd_Tree_gain_31 : decode prog_1_method_11_code 31 = .ok (.lmul, 1) := by decide +kernel
theorem zd_Tree_gain_32 : decode prog_1_method_11_code 32 = .ok (.aload_n 2, 1) := by decide +kernel
theorem zd_Tree_gain_33 : decode prog_1_method_11_code 33 = .ok (.getfield 159, 3) := by decide +kernel
theorem zd_Tree_gain_36 : decode prog_1_method_11_code 36 = .ok (.ladd, 1) := by decide +kernel
theorem zd_Tree_gain_37 : decode prog_1_method_11_code 37 = .ok (.lreturn, 1) := by decide +kernel
def zm_Tree_rowsOf : zg_M := (⟨"SurrogateTree", "rowsOf", "(I)I"⟩, prog_1_method_12_code, 2, (some .int))
theorem zd_Tree_rowsOf_0 : decode prog_1_method_12_code 0 = .ok (.aload_n 0, 1) := by decide +kernel
theorem zd_Tree_rowsOf_1 : decode prog_1_method_12_code 1 = .ok (.getfield 122, 3) := by decide +kernel
theorem zd_Tree_rowsOf_4 : decode prog_1_method_12_code 4 = .ok (.iload_n 1, 1) := by decide +kernel
theorem zd_Tree_rowsOf_5 : decode prog_1_method_12_code 5 = .ok (.invokevirtual 125, 3) := by decide +kernel
theorem zd_Tree_rowsOf_8 : decode prog_1_method_12_code 8 = .ok (.iconst (-1), 1) := by decide +kernel
theorem zd_Tree_rowsOf_9 : decode prog_1_method_12_code 9 = .ok (.if_icmp .ne 7, 3) := by decide +kernel
theorem zd_Tree_rowsOf_12 : decode prog_1_method_12_code 12 = .ok (.iconst (-1), 1) := by decide +kernel
theorem zd_Tree_rowsOf_13 : decode prog_1_method_12_code 13 = .ok (.goto 12, 3) := by decide +kernel
theorem zd_Tree_rowsOf_16 : decode prog_1_method_12_code 16 = .ok (.aload_n 0, 1) := by decide +kernel
theorem zd_Tree_rowsOf_17 : decode prog_1_method_12_code 17 = .ok (.getfield 25, 3) := by decide +kernel
theorem zd_Tree_rowsOf_20 : decode prog_1_method_12_code 20 = .ok (.iload_n 1, 1) := by decide +kernel
theorem zd_Tree_rowsOf_21 : decode prog_1_method_12_code 21 = .ok (.aaload, 1) := by decide +kernel
theorem zd_Tree_rowsOf_22 : decode prog_1_method_12_code 22 = .ok (.getfield 162, 3) := by decide +kernel
theorem zd_Tree_rowsOf_25 : decode prog_1_method_12_code 25 = .ok (.ireturn, 1) := by decide +kernel
def zm_Tree_classOf : zg_M := (⟨"SurrogateTree", "classOf", "(I)I"⟩, prog_1_method_13_code, 2, (some .int))
theorem zd_Tree_classOf_0 : decode prog_1_method_13_code 0 = .ok (.aload_n 0, 1) := by decide +kernel
theorem zd_Tree_classOf_1 : decode prog_1_method_13_code 1 = .ok (.getfield 122, 3) := by decide +kernel
theorem zd_Tree_classOf_4 : decode prog_1_method_13_code 4 = .ok (.iload_n 1, 1) := by decide +kernel
theorem zd_Tree_classOf_5 : decode prog_1_method_13_code 5 = .ok (.invokevirtual 125, 3) := by decide +kernel
theorem zd_Tree_classOf_8 : decode prog_1_method_13_code 8 = .ok (.iconst (-1), 1) := by decide +kernel
theorem zd_Tree_classOf_9 : decode prog_1_method_13_code 9 = .ok (.if_icmp .ne 7, 3) := by decide +kernel
theorem zd_Tree_classOf_12 : decode prog_1_method_13_code 12 = .ok (.iconst (-1), 1) := by decide +kernel
theorem zd_Tree_classOf_13 : decode prog_1_method_13_code 13 = .ok (.goto 12, 3) := by decide +kernel
theorem zd_Tree_classOf_16 : decode prog_1_method_13_code 16 = .ok (.aload_n 0, 1) := by decide +kernel
theorem zd_Tree_classOf_17 : decode prog_1_method_13_code 17 = .ok (.getfield 25, 3) := by decide +kernel
theorem zd_Tree_classOf_20 : decode prog_1_method_13_code 20 = .ok (.iload_n 1, 1) := by decide +kernel
theorem zd_Tree_classOf_21 : decode prog_1_method_13_code 21 = .ok (.aaload, 1) := by decide +kernel
theorem zd_Tree_classOf_22 : decode prog_1_method_13_code 22 = .ok (.getfield 165, 3) := by decide +kernel
theorem zd_Tree_classOf_25 : decode prog_1_method_13_code 25 = .ok (.ireturn, 1) := by decide +kernel
def zm_Tree_error : zg_M := (⟨"SurrogateTree", "error", "(I)I"⟩, prog_1_method_14_code, 2, (some .int))
theorem zd_Tree_error_0 : decode prog_1_method_14_code 0 = .ok (.aload_n 0, 1) := by decide +kernel
theorem zd_Tree_error_1 : decode prog_1_method_14_code 1 = .ok (.getfield 122, 3) := by decide +kernel
theorem zd_Tree_error_4 : decode prog_1_method_14_code 4 = .ok (.iload_n 1, 1) := by decide +kernel
theorem zd_Tree_error_5 : decode prog_1_method_14_code 5 = .ok (.invokevirtual 125, 3) := by decide +kernel
theorem zd_Tree_error_8 : decode prog_1_method_14_code 8 = .ok (.iconst (-1), 1) := by decide +kernel
theorem zd_Tree_error_9 : decode prog_1_method_14_code 9 = .ok (.if_icmp .ne 7, 3) := by decide +kernel
theorem zd_Tree_error_12 : decode prog_1_method_14_code 12 = .ok (.iconst (-1), 1) := by decide +kernel
theorem zd_Tree_error_13 : decode prog_1_method_14_code 13 = .ok (.goto 12, 3) := by decide +kernel
theorem zd_Tree_error_16 : decode prog_1_method_14_code 16 = .ok (.aload_n 0, 1) := by decide +kernel
theorem zd_Tree_error_17 : decode prog_1_method_14_code 17 = .ok (.getfield 25, 3) := by decide +kernel
theorem zd_Tree_error_20 : decode prog_1_method_14_code 20 = .ok (.iload_n 1, 1) := by decide +kernel
theorem zd_Tree_error_21 : decode prog_1_method_14_code 21 = .ok (.aaload, 1) := by decide +kernel
theorem zd_Tree_error_22 : decode prog_1_method_14_code 22 = .ok (.getfield 168, 3) := by decide +kernel
theorem zd_Tree_error_25 : decode prog_1_method_14_code 25 = .ok (.ireturn, 1) := by decide +kernel
def zm_Tree_reach : zg_M := (⟨"SurrogateTree", "reach", "(III)I"⟩, prog_1_method_15_code, 4, (some .int))
theorem zd_Tree_reach_0 : decode prog_1_method_15_code 0 = .ok (.aload_n 0, 1) := by decide +kernel
theorem zd_Tree_reach_1 : decode prog_1_method_15_code 1 = .ok (.getfield 61, 3) := by decide +kernel
theorem zd_Tree_reach_4 : decode prog_1_method_15_code 4 = .ok (.iconst 0, 1) := by decide +kernel
theorem zd_Tree_reach_5 : decode prog_1_method_15_code 5 = .ok (.iload_n 1, 1) := by decide +kernel
theorem zd_Tree_reach_6 : decode prog_1_method_15_code 6 = .ok (.iastore, 1) := by decide +kernel
theorem zd_Tree_reach_7 : decode prog_1_method_15_code 7 = .ok (.aload_n 0, 1) := by decide +kernel
theorem zd_Tree_reach_8 : decode prog_1_method_15_code 8 = .ok (.getfield 61, 3) := by decide +kernel
theorem zd_Tree_reach_11 : decode prog_1_method_15_code 11 = .ok (.iconst 1, 1) := by decide +kernel
theorem zd_Tree_reach_12 : decode prog_1_method_15_code 12 = .ok (.iload_n 2, 1) := by decide +kernel
theorem zd_Tree_reach_13 : decode prog_1_method_15_code 13 = .ok (.iastore, 1) := by decide +kernel
theorem zd_Tree_reach_14 : decode prog_1_method_15_code 14 = .ok (.aload_n 0, 1) := by decide +kernel
theorem zd_Tree_reach_15 : decode prog_1_method_15_code 15 = .ok (.getfield 61, 3) := by decide +kernel
theorem zd_Tree_reach_18 : decode prog_1_method_15_code 18 = .ok (.iconst 2, 1) := by decide +kernel
theorem zd_Tree_reach_19 : decode prog_1_method_15_code 19 = .ok (.iload_n 3, 1) := by decide +kernel
theorem zd_Tree_reach_20 : decode prog_1_method_15_code 20 = .ok (.iastore, 1) := by decide +kernel
theorem zd_Tree_reach_21 : decode prog_1_method_15_code 21 = .ok (.aload_n 0, 1) := by decide +kernel
theorem zd_Tree_reach_22 : decode prog_1_method_15_code 22 = .ok (.aload_n 0, 1) := by decide +kernel
theorem zd_Tree_reach_23 : decode prog_1_method_15_code 23 = .ok (.getfield 61, 3) := by decide +kernel
theorem zd_Tree_reach_26 : decode prog_1_method_15_code 26 = .ok (.invokevirtual 171, 3) := by decide +kernel
theorem zd_Tree_reach_29 : decode prog_1_method_15_code 29 = .ok (.ireturn, 1) := by decide +kernel
def zm_Tree_endOf : zg_M := (⟨"SurrogateTree", "endOf", "([I)I"⟩, prog_1_method_26_code, 4, (some .int))
theorem zd_Tree_endOf_0 : decode prog_1_method_26_code 0 = .ok (.iconst 1, 1) := by decide +kernel
theorem zd_Tree_endOf_1 : decode prog_1_method_26_code 1 = .ok (.istore_n 2, 1) := by decide +kernel
theorem zd_Tree_endOf_2 : decode prog_1_method_26_code 2 = .ok (.iconst 0, 1) := by decide +kernel
theorem zd_Tree_endOf_3 : decode prog_1_method_26_code 3 = .ok (.istore_n 3, 1) := by decide +kernel
theorem zd_Tree_endOf_4 : decode prog_1_method_26_code 4 = .ok (.iload_n 3, 1) := by decide +kernel
theorem zd_Tree_endOf_5 : decode prog_1_method_26_code 5 = .ok (.iconst 4, 1) := by decide +kernel
theorem zd_Tree_endOf_6 : decode prog_1_method_26_code 6 = .ok (.if_icmp .ge 46, 3) := by decide +kernel
theorem zd_Tree_endOf_9 : decode prog_1_method_26_code 9 = .ok (.aload_n 0, 1) := by decide +kernel
theorem zd_Tree_endOf_10 : decode prog_1_method_26_code 10 = .ok (.getfield 122, 3) := by decide +kernel
theorem zd_Tree_endOf_13 : decode prog_1_method_26_code 13 = .ok (.iload_n 2, 1) := by decide +kernel
theorem zd_Tree_endOf_14 : decode prog_1_method_26_code 14 = .ok (.invokevirtual 125, 3) := by decide +kernel
theorem zd_Tree_endOf_17 : decode prog_1_method_26_code 17 = .ok (.iconst 2, 1) := by decide +kernel
theorem zd_Tree_endOf_18 : decode prog_1_method_26_code 18 = .ok (.if_icmp .ne 34, 3) := by decide +kernel
theorem zd_Tree_endOf_21 : decode prog_1_method_26_code 21 = .ok (.aload_n 0, 1) := by decide +kernel
theorem zd_Tree_endOf_22 : decode prog_1_method_26_code 22 = .ok (.getfield 25, 3) := by decide +kernel
theorem zd_Tree_endOf_25 : decode prog_1_method_26_code 25 = .ok (.iload_n 2, 1) := by decide +kernel
theorem zd_Tree_endOf_26 : decode prog_1_method_26_code 26 = .ok (.aaload, 1) := by decide +kernel
theorem zd_Tree_endOf_27 : decode prog_1_method_26_code 27 = .ok (.aload_n 1, 1) := by decide +kernel
theorem zd_Tree_endOf_28 : decode prog_1_method_26_code 28 = .ok (.invokevirtual 234, 3) := by decide +kernel
theorem zd_Tree_endOf_31 : decode prog_1_method_26_code 31 = .ok (.ifCond .eq 9, 3) := by decide +kernel
theorem zd_Tree_endOf_34 : decode prog_1_method_26_code 34 = .ok (.iconst 2, 1) := by decide +kernel
theorem zd_Tree_endOf_35 : decode prog_1_method_26_code 35 = .ok (.iload_n 2, 1) := by decide +kernel
theorem zd_Tree_endOf_36 : decode prog_1_method_26_code 36 = .ok (.imul, 1) := by decide +kernel
theorem zd_Tree_endOf_37 : decode prog_1_method_26_code 37 = .ok (.goto 8, 3) := by decide +kernel
theorem zd_Tree_endOf_40 : decode prog_1_method_26_code 40 = .ok (.iconst 2, 1) := by decide +kernel
theorem zd_Tree_endOf_41 : decode prog_1_method_26_code 41 = .ok (.iload_n 2, 1) := by decide +kernel
theorem zd_Tree_endOf_42 : decode prog_1_method_26_code 42 = .ok (.imul, 1) := by decide +kernel
theorem zd_Tree_endOf_43 : decode prog_1_method_26_code 43 = .ok (.iconst 1, 1) := by decide +kernel
theorem zd_Tree_endOf_44 : decode prog_1_method_26_code 44 = .ok (.iadd, 1) := by decide +kernel
theorem zd_Tree_endOf_45 : decode prog_1_method_26_code 45 = .ok (.istore_n 2, 1) := by decide +kernel
theorem zd_Tree_endOf_46 : decode prog_1_method_26_code 46 = .ok (.iinc 3 1, 3) := by decide +kernel
theorem zd_Tree_endOf_49 : decode prog_1_method_26_code 49 = .ok (.goto (-45), 3) := by decide +kernel
theorem zd_Tree_endOf_52 : decode prog_1_method_26_code 52 = .ok (.iload_n 2, 1) := by decide +kernel
theorem zd_Tree_endOf_53 : decode prog_1_method_26_code 53 = .ok (.ireturn, 1) := by decide +kernel
def zm_Tree_cut : zg_M := (⟨"SurrogateTree", "cut", "(II)I"⟩, prog_1_method_16_code, 3, (some .int))
theorem zd_Tree_cut_0 : decode prog_1_method_16_code 0 = .ok (.aload_n 0, 1) := by decide +kernel
theorem zd_Tree_cut_1 : decode prog_1_method_16_code 1 = .ok (.getfield 33, 3) := by decide +kernel
theorem zd_Tree_cut_4 : decode prog_1_method_16_code 4 = .ok (.invokevirtual 116, 3) := by decide +kernel
theorem zd_Tree_cut_7 : decode prog_1_method_16_code 7 = .ok (.ifCond .ne 17, 3) := by decide +kernel
theorem zd_Tree_cut_10 : decode prog_1_method_16_code 10 = .ok (.iload_n 1, 1) := by decide +kernel
theorem zd_Tree_cut_11 : decode prog_1_method_16_code 11 = .ok (.invokestatic 175, 3) := by decide +kernel
theorem zd_Tree_cut_14 : decode prog_1_method_16_code 14 = .ok (.ifCond .eq 10, 3) := by decide +kernel
theorem zd_Tree_cut_17 : decode prog_1_method_16_code 17 = .ok (.iload_n 2, 1) := by decide +kernel
theorem zd_Tree_cut_18 : decode prog_1_method_16_code 18 = .ok (.invokestatic 175, 3) := by decide +kernel
theorem zd_Tree_cut_21 : decode prog_1_method_16_code 21 = .ok (.ifCond .ne 5, 3) := by decide +kernel
theorem zd_Tree_cut_24 : decode prog_1_method_16_code 24 = .ok (.iconst (-1), 1) := by decide +kernel
theorem zd_Tree_cut_25 : decode prog_1_method_16_code 25 = .ok (.ireturn, 1) := by decide +kernel
theorem zd_Tree_cut_26 : decode prog_1_method_16_code 26 = .ok (.iload_n 2, 1) := by decide +kernel
theorem zd_Tree_cut_27 : decode prog_1_method_16_code 27 = .ok (.ifCond .ne 14, 3) := by decide +kernel
theorem zd_Tree_cut_30 : decode prog_1_method_16_code 30 = .ok (.aload_n 0, 1) := by decide +kernel
theorem zd_Tree_cut_31 : decode prog_1_method_16_code 31 = .ok (.aload_n 0, 1) := by decide +kernel
theorem zd_Tree_cut_32 : decode prog_1_method_16_code 32 = .ok (.getfield 33, 3) := by decide +kernel
theorem zd_Tree_cut_35 : decode prog_1_method_16_code 35 = .ok (.putfield 122, 3) := by decide +kernel
theorem zd_Tree_cut_38 : decode prog_1_method_16_code 38 = .ok (.goto 32, 3) := by decide +kernel
theorem zd_Tree_cut_41 : decode prog_1_method_16_code 41 = .ok (.aload_n 0, 1) := by decide +kernel
theorem zd_Tree_cut_42 : decode prog_1_method_16_code 42 = .ok (.getfield 57, 3) := by decide +kernel
theorem zd_Tree_cut_45 : decode prog_1_method_16_code 45 = .ok (.aload_n 0, 1) := by decide +kernel
theorem zd_Tree_cut_46 : decode prog_1_method_16_code 46 = .ok (.getfield 33, 3) := by decide +kernel
theorem zd_Tree_cut_49 : decode prog_1_method_16_code 49 = .ok (.aload_n 0, 1) := by decide +kernel
theorem zd_Tree_cut_50 : decode prog_1_method_16_code 50 = .ok (.getfield 25, 3) := by decide +kernel
theorem zd_Tree_cut_53 : decode prog_1_method_16_code 53 = .ok (.iload_n 1, 1) := by decide +kernel
theorem zd_Tree_cut_54 : decode prog_1_method_16_code 54 = .ok (.iload_n 2, 1) := by decide +kernel
theorem zd_Tree_cut_55 : decode prog_1_method_16_code 55 = .ok (.aload_n 0, 1) := by decide +kernel
theorem zd_Tree_cut_56 : decode prog_1_method_16_code 56 = .ok (.getfield 37, 3) := by decide +kernel
theorem zd_Tree_cut_59 : decode prog_1_method_16_code 59 = .ok (.invokevirtual 178, 3) := by decide +kernel
theorem zd_Tree_cut_62 : decode prog_1_method_16_code 62 = .ok (.aload_n 0, 1) := by decide +kernel
theorem zd_Tree_cut_63 : decode prog_1_method_16_code 63 = .ok (.aload_n 0, 1) := by decide +kernel
theorem zd_Tree_cut_64 : decode prog_1_method_16_code 64 = .ok (.getfield 37, 3) := by decide +kernel
theorem zd_Tree_cut_67 : decode prog_1_method_16_code 67 = .ok (.putfield 122, 3) := by decide +kernel
theorem zd_Tree_cut_70 : decode prog_1_method_16_code 70 = .ok (.aload_n 0, 1) := by decide +kernel
theorem zd_Tree_cut_71 : decode prog_1_method_16_code 71 = .ok (.getfield 122, 3) := by decide +kernel
theorem zd_Tree_cut_74 : decode prog_1_method_16_code 74 = .ok (.invokevirtual 182, 3) := by decide +kernel
theorem zd_Tree_cut_77 : decode prog_1_method_16_code 77 = .ok (.ireturn, 1) := by decide +kernel
def zm_Tree_isCutTerm : zg_M := (⟨"SurrogateTree", "isCutTerm", "(I)Z"⟩, prog_1_method_22_code, 1, (some .boolean))
theorem zd_Tree_isCutTerm_0 : decode prog_1_method_22_code 0 = .ok (.iload_n 0, 1) := by decide +kernel
theorem zd_Tree_isCutTerm_1 : decode prog_1_method_22_code 1 = .ok (.ifCond .lt 14, 3) := by decide +kernel
theorem zd_Tree_isCutTerm_4 : decode prog_1_method_22_code 4 = .ok (.iload_n 0, 1) := by decide +kernel
theorem zd_Tree_isCutTerm_5 : decode prog_1_method_22_code 5 = .ok (.sipush 1000, 3) := by decide +kernel
theorem zd_Tree_isCutTerm_8 : decode prog_1_method_22_code 8 = .ok (.if_icmp .gt 7, 3) := by decide +kernel
theorem zd_Tree_isCutTerm_11 : decode prog_1_method_22_code 11 = .ok (.iconst 1, 1) := by decide +kernel
theorem zd_Tree_isCutTerm_12 : decode prog_1_method_22_code 12 = .ok (.goto 4, 3) := by decide +kernel
theorem zd_Tree_isCutTerm_15 : decode prog_1_method_22_code 15 = .ok (.iconst 0, 1) := by decide +kernel
theorem zd_Tree_isCutTerm_16 : decode prog_1_method_22_code 16 = .ok (.ireturn, 1) := by decide +kernel
def zm_Cutter_trim : zg_M := (⟨"SurrogateTree$Cutter", "trim", "(LSurrogateTree$Shape;[LSurrogateTree$Node;IILSurrogateTree$Shape;)V"⟩, prog_3_method_2_code, 9, none)
theorem zd_Cutter_trim_0 : decode prog_3_method_2_code 0 = .ok (.bipush 31, 2) := by decide +kernel
theorem zd_Cutter_trim_2 : decode prog_3_method_2_code 2 = .ok (.istore 6, 2) := by decide +kernel
theorem zd_Cutter_trim_4 : decode prog_3_method_2_code 4 = .ok (.iload 6, 2) := by decide +kernel
theorem zd_Cutter_trim_6 : decode prog_3_method_2_code 6 = .ok (.iconst 1, 1) := by decide +kernel
theorem zd_Cutter_trim_7 : decode prog_3_method_2_code 7 = .ok (.if_icmp .lt 113, 3) := by decide +kernel
theorem zd_Cutter_trim_10 : decode prog_3_method_2_code 10 = .ok (.aload_n 1, 1) := by decide +kernel
theorem zd_Cutter_trim_11 : decode prog_3_method_2_code 11 = .ok (.iload 6, 2) := by decide +kernel
theorem zd_Cutter_trim_13 : decode prog_3_method_2_code 13 = .ok (.invokevirtual 38, 3) := by decide +kernel
theorem zd_Cutter_trim_16 : decode prog_3_method_2_code 16 = .ok (.istore 7, 2) := by decide +kernel
theorem zd_Cutter_trim_18 : decode prog_3_method_2_code 18 = .ok (.aload_n 0, 1) := by decide +kernel
theorem zd_Cutter_trim_19 : decode prog_3_method_2_code 19 = .ok (.getfield 28, 3) := by decide +kernel
theorem zd_Cutter_trim_22 : decode prog_3_method_2_code 22 = .ok (.iload 6, 2) := by decide +kernel
theorem zd_Cutter_trim_24 : decode prog_3_method_2_code 24 = .ok (.aload_n 2, 1) := by decide +kernel
theorem zd_Cutter_trim_25 : decode prog_3_method_2_code 25 = .ok (.iload 6, 2) := by decide +kernel
theorem zd_Cutter_trim_27 : decode prog_3_method_2_code 27 = .ok (.aaload, 1) := by decide +kernel
theorem zd_Cutter_trim_28 : decode prog_3_method_2_code 28 = .ok (.getfield 42, 3) := by decide +kernel
theorem zd_Cutter_trim_31 : decode prog_3_method_2_code 31 = .ok (.iload 4, 2) := by decide +kernel
theorem zd_Cutter_trim_33 : decode prog_3_method_2_code 33 = .ok (.imul, 1) := by decide +kernel
theorem zd_Cutter_trim_34 : decode prog_3_method_2_code 34 = .ok (.iload_n 3, 1) := by decide +kernel
theorem zd_Cutter_trim_35 : decode prog_3_method_2_code 35 = .ok (.iadd, 1) := by decide +kernel
theorem zd_Cutter_trim_36 : decode prog_3_method_2_code 36 = .ok (.iastore, 1) := by decide +kernel
theorem zd_Cutter_trim_37 : decode prog_3_method_2_code 37 = .ok (.iload 7, 2) := by decide +kernel
theorem zd_Cutter_trim_39 : decode prog_3_method_2_code 39 = .ok (.iconst 2, 1) := by decide +kernel
theorem zd_Cutter_trim_40 : decode prog_3_method_2_code 40 = .ok (.if_icmp .ne 64, 3) := by decide +kernel
theorem zd_Cutter_trim_43 : decode prog_3_method_2_code 43 = .ok (.iconst 2, 1) := by decide +kernel
theorem zd_Cutter_trim_44 : decode prog_3_method_2_code 44 = .ok (.iload 6, 2) := by decide +kernel
theorem zd_Cutter_trim_46 : decode prog_3_method_2_code 46 = .ok (.imul, 1) := by decide +kernel
theorem zd_Cutter_trim_47 : decode prog_3_method_2_code 47 = .ok (.iconst 1, 1) := by decide +kernel
theorem zd_Cutter_trim_48 : decode prog_3_method_2_code 48 = .ok (.iadd, 1) := by decide +kernel
theorem zd_Cutter_trim_49 : decode prog_3_method_2_code 49 = .ok (.bipush 32, 2) := by decide +kernel
theorem zd_Cutter_trim_51 : decode prog_3_method_2_code 51 = .ok (.if_icmp .ge 53, 3) := by decide +kernel
theorem zd_Cutter_trim_54 : decode prog_3_method_2_code 54 = .ok (.aload_n 0, 1) := by decide +kernel
theorem zd_Cutter_trim_55 : decode prog_3_method_2_code 55 = .ok (.getfield 28, 3) := by decide +kernel
theorem zd_Cutter_trim_58 : decode prog_3_method_2_code 58 = .ok (.iconst 2, 1) := by decide +kernel
theorem zd_Cutter_trim_59 : decode prog_3_method_2_code 59 = .ok (.iload 6, 2) := by decide +kernel
theorem zd_Cutter_trim_61 : decode prog_3_method_2_code 61 = .ok (.imul, 1) := by decide +kernel
theorem zd_Cutter_trim_62 : decode prog_3_method_2_code 62 = .ok (.iaload, 1) := by decide +kernel
theorem zd_Cutter_trim_63 : decode prog_3_method_2_code 63 = .ok (.aload_n 0, 1) := by decide +kernel
theorem zd_Cutter_trim_64 : decode prog_3_method_2_code 64 = .ok (.getfield 28, 3) := by decide +kernel
theorem zd_Cutter_trim_67 : decode prog_3_method_2_code 67 = .ok (.iconst 2, 1) := by decide +kernel
theorem zd_Cutter_trim_68 : decode prog_3_method_2_code 68 = .ok (.iload 6, 2) := by decide +kernel
theorem zd_Cutter_trim_70 : decode prog_3_method_2_code 70 = .ok (.imul, 1) := by decide +kernel
theorem zd_Cutter_trim_71 : decode prog_3_method_2_code 71 = .ok (.iconst 1, 1) := by decide +kernel
theorem zd_Cutter_trim_72 : decode prog_3_method_2_code 72 = .ok (.iadd, 1) := by decide +kernel
theorem zd_Cutter_trim_73 : decode prog_3_method_2_code 73 = .ok (.iaload, 1) := by decide +kernel
theorem zd_Cutter_trim_74 : decode prog_3_method_2_code 74 = .ok (.iadd, 1) := by decide +kernel
theorem zd_Cutter_trim_75 : decode prog_3_method_2_code 75 = .ok (.istore 8, 2) := by decide +kernel
theorem zd_Cutter_trim_77 : decode prog_3_method_2_code 77 = .ok (.iload 8, 2) := by decide +kernel
theorem zd_Cutter_trim_79 : decode prog_3_method_2_code 79 = .ok (.aload_n 0, 1) := by decide +kernel
theorem zd_Cutter_trim_80 : decode prog_3_method_2_code 80 = .ok (.getfield 28, 3) := by decide +kernel
theorem zd_Cutter_trim_83 : decode prog_3_method_2_code 83 = .ok (.iload 6, 2) := by decide +kernel
theorem zd_Cutter_trim_85 : decode prog_3_method_2_code 85 = .ok (.iaload, 1) := by decide +kernel
theorem zd_Cutter_trim_86 : decode prog_3_method_2_code 86 = .ok (.if_icmp .ge 15, 3) := by decide +kernel
theorem zd_Cutter_trim_89 : decode prog_3_method_2_code 89 = .ok (.aload_n 0, 1) := by decide +kernel
theorem zd_Cutter_trim_90 : decode prog_3_method_2_code 90 = .ok (.getfield 28, 3) := by decide +kernel
theorem zd_Cutter_trim_93 : decode prog_3_method_2_code 93 = .ok (.iload 6, 2) := by decide +kernel
theorem zd_Cutter_trim_95 : decode prog_3_method_2_code 95 = .ok (.iload 8, 2) := by decide +kernel
theorem zd_Cutter_trim_97 : decode prog_3_method_2_code 97 = .ok (.iastore, 1) := by decide +kernel
theorem zd_Cutter_trim_98 : decode prog_3_method_2_code 98 = .ok (.goto 6, 3) := by decide +kernel
theorem zd_Cutter_trim_101 : decode prog_3_method_2_code 101 = .ok (.iconst 1, 1) := by decide +kernel
theorem zd_Cutter_trim_102 : decode prog_3_method_2_code 102 = .ok (.istore 7, 2) := by decide +kernel
theorem zd_Cutter_trim_104 : decode prog_3_method_2_code 104 = .ok (.aload 5, 2) := by decide +kernel
theorem zd_Cutter_trim_106 : decode prog_3_method_2_code 106 = .ok (.getfield 48, 3) := by decide +kernel
theorem zd_Cutter_trim_109 : decode prog_3_method_2_code 109 = .ok (.iload 6, 2) := by decide +kernel
theorem zd_Cutter_trim_111 : decode prog_3_method_2_code 111 = .ok (.iload 7, 2) := by decide +kernel
theorem zd_Cutter_trim_113 : decode prog_3_method_2_code 113 = .ok (.iastore, 1) := by decide +kernel
theorem zd_Cutter_trim_114 : decode prog_3_method_2_code 114 = .ok (.iinc 6 (-1), 3) := by decide +kernel
theorem zd_Cutter_trim_117 : decode prog_3_method_2_code 117 = .ok (.goto (-113), 3) := by decide +kernel
theorem zd_Cutter_trim_120 : decode prog_3_method_2_code 120 = .ok (.aload 5, 2) := by decide +kernel
theorem zd_Cutter_trim_122 : decode prog_3_method_2_code 122 = .ok (.invokevirtual 51, 3) := by decide +kernel
theorem zd_Cutter_trim_125 : decode prog_3_method_2_code 125 = .ok (.return_, 1) := by decide +kernel
def zm_Tree_breakAt : zg_M := (⟨"SurrogateTree", "breakAt", "(I)I"⟩, prog_1_method_17_code, 2, (some .int))
theorem zd_Tree_breakAt_0 : decode prog_1_method_17_code 0 = .ok (.aload_n 0, 1) := by decide +kernel
theorem zd_Tree_breakAt_1 : decode prog_1_method_17_code 1 = .ok (.getfield 33, 3) := by decide +kernel
theorem zd_Tree_breakAt_4 : decode prog_1_method_17_code 4 = .ok (.invokevirtual 116, 3) := by decide +kernel
theorem zd_Tree_breakAt_7 : decode prog_1_method_17_code 7 = .ok (.ifCond .ne 13, 3) := by decide +kernel
theorem zd_Tree_breakAt_10 : decode prog_1_method_17_code 10 = .ok (.iload_n 1, 1) := by decide +kernel
theorem zd_Tree_breakAt_11 : decode prog_1_method_17_code 11 = .ok (.ifCond .lt 9, 3) := by decide +kernel
theorem zd_Tree_breakAt_14 : decode prog_1_method_17_code 14 = .ok (.iload_n 1, 1) := by decide +kernel
theorem zd_Tree_breakAt_15 : decode prog_1_method_17_code 15 = .ok (.bipush 15, 2) := by decide +kernel
theorem zd_Tree_breakAt_17 : decode prog_1_method_17_code 17 = .ok (.if_icmp .lt 5, 3) := by decide +kernel
theorem zd_Tree_breakAt_20 : decode prog_1_method_17_code 20 = .ok (.iconst (-1), 1) := by decide +kernel
theorem zd_Tree_breakAt_21 : decode prog_1_method_17_code 21 = .ok (.ireturn, 1) := by decide +kernel
theorem zd_Tree_breakAt_22 : decode prog_1_method_17_code 22 = .ok (.aload_n 0, 1) := by decide +kernel
theorem zd_Tree_breakAt_23 : decode prog_1_method_17_code 23 = .ok (.getfield 57, 3) := by decide +kernel
theorem zd_Tree_breakAt_26 : decode prog_1_method_17_code 26 = .ok (.aload_n 0, 1) := by decide +kernel
theorem zd_Tree_breakAt_27 : decode prog_1_method_17_code 27 = .ok (.getfield 33, 3) := by decide +kernel
theorem zd_Tree_breakAt_30 : decode prog_1_method_17_code 30 = .ok (.aload_n 0, 1) := by decide +kernel
theorem zd_Tree_breakAt_31 : decode prog_1_method_17_code 31 = .ok (.getfield 25, 3) := by decide +kernel
theorem zd_Tree_breakAt_34 : decode prog_1_method_17_code 34 = .ok (.iload_n 1, 1) := by decide +kernel
theorem zd_Tree_breakAt_35 : decode prog_1_method_17_code 35 = .ok (.invokevirtual 185, 3) := by decide +kernel
theorem zd_Tree_breakAt_38 : decode prog_1_method_17_code 38 = .ok (.ifCond .ne 5, 3) := by decide +kernel
theorem zd_Tree_breakAt_41 : decode prog_1_method_17_code 41 = .ok (.iconst (-1), 1) := by decide +kernel
theorem zd_Tree_breakAt_42 : decode prog_1_method_17_code 42 = .ok (.ireturn, 1) := by decide +kernel
theorem zd_Tree_breakAt_43 : decode prog_1_method_17_code 43 = .ok (.aload_n 0, 1) := by decide +kernel
theorem zd_Tree_breakAt_44 : decode prog_1_method_17_code 44 = .ok (.getfield 57, 3) := by decide +kernel
theorem zd_Tree_breakAt_47 : decode prog_1_method_17_code 47 = .ok (.getfield 189, 3) := by decide +kernel
theorem zd_Tree_breakAt_50 : decode prog_1_method_17_code 50 = .ok (.getfield 151, 3) := by decide +kernel
theorem zd_Tree_breakAt_53 : decode prog_1_method_17_code 53 = .ok (.ldc2_w 192, 3) := by decide +kernel
theorem zd_Tree_breakAt_56 : decode prog_1_method_17_code 56 = .ok (.lmul, 1) := by decide +kernel
theorem zd_Tree_breakAt_57 : decode prog_1_method_17_code 57 = .ok (.aload_n 0, 1) := by decide +kernel
theorem zd_Tree_breakAt_58 : decode prog_1_method_17_code 58 = .ok (.getfield 57, 3) := by decide +kernel
theorem zd_Tree_breakAt_61 : decode prog_1_method_17_code 61 = .ok (.getfield 189, 3) := by decide +kernel
theorem zd_Tree_breakAt_64 : decode prog_1_method_17_code 64 = .ok (.getfield 159, 3) := by decide +kernel
theorem zd_Tree_breakAt_67 : decode prog_1_method_17_code 67 = .ok (.ladd, 1) := by decide +kernel
theorem zd_Tree_breakAt_68 : decode prog_1_method_17_code 68 = .ok (.l2i, 1) := by decide +kernel
theorem zd_Tree_breakAt_69 : decode prog_1_method_17_code 69 = .ok (.ireturn, 1) := by decide +kernel
def zm_Cutter_findBreak : zg_M := (⟨"SurrogateTree$Cutter", "findBreak", "(LSurrogateTree$Shape;[LSurrogateTree$Node;I)Z"⟩, prog_3_method_3_code, 6, (some .boolean))
theorem zd_Cutter_findBreak_0 : decode prog_3_method_3_code 0 = .ok (.aload_n 0, 1) := by decide +kernel
theorem zd_Cutter_findBreak_1 : decode prog_3_method_3_code 1 = .ok (.aload_n 1, 1) := by decide +kernel
theorem zd_Cutter_findBreak_2 : decode prog_3_method_3_code 2 = .ok (.aload_n 2, 1) := by decide +kernel
theorem zd_Cutter_findBreak_3 : decode prog_3_method_3_code 3 = .ok (.iconst 0, 1) := by decide +kernel
theorem zd_Cutter_findBreak_4 : decode prog_3_method_3_code 4 = .ok (.iconst 1, 1) := by decide +kernel
theorem zd_Cutter_findBreak_5 : decode prog_3_method_3_code 5 = .ok (.aload_n 0, 1) := by decide +kernel
theorem zd_Cutter_findBreak_6 : decode prog_3_method_3_code 6 = .ok (.getfield 21, 3) := by decide +kernel
theorem zd_Cutter_findBreak_9 : decode prog_3_method_3_code 9 = .ok (.invokevirtual 54, 3) := by decide +kernel
theorem zd_Cutter_findBreak_12 : decode prog_3_method_3_code 12 = .ok (.aload_n 0, 1) := by decide +kernel
theorem zd_Cutter_findBreak_13 : decode prog_3_method_3_code 13 = .ok (.aload_n 2, 1) := by decide +kernel
theorem zd_Cutter_findBreak_14 : decode prog_3_method_3_code 14 = .ok (.invokevirtual 58, 3) := by decide +kernel
theorem zd_Cutter_findBreak_17 : decode prog_3_method_3_code 17 = .ok (.istore 4, 2) := by decide +kernel
theorem zd_Cutter_findBreak_19 : decode prog_3_method_3_code 19 = .ok (.iconst 0, 1) := by decide +kernel
theorem zd_Cutter_findBreak_20 : decode prog_3_method_3_code 20 = .ok (.istore 5, 2) := by decide +kernel
theorem zd_Cutter_findBreak_22 : decode prog_3_method_3_code 22 = .ok (.iload 5, 2) := by decide +kernel
theorem zd_Cutter_findBreak_24 : decode prog_3_method_3_code 24 = .ok (.iload_n 3, 1) := by decide +kernel
theorem zd_Cutter_findBreak_25 : decode prog_3_method_3_code 25 = .ok (.if_icmp .ge 47, 3) := by decide +kernel
theorem zd_Cutter_findBreak_28 : decode prog_3_method_3_code 28 = .ok (.iload 4, 2) := by decide +kernel
theorem zd_Cutter_findBreak_30 : decode prog_3_method_3_code 30 = .ok (.ifCond .eq 42, 3) := by decide +kernel
theorem zd_Cutter_findBreak_33 : decode prog_3_method_3_code 33 = .ok (.aload_n 0, 1) := by decide +kernel
theorem zd_Cutter_findBreak_34 : decode prog_3_method_3_code 34 = .ok (.aload_n 1, 1) := by decide +kernel
theorem zd_Cutter_findBreak_35 : decode prog_3_method_3_code 35 = .ok (.aload_n 2, 1) := by decide +kernel
theorem zd_Cutter_findBreak_36 : decode prog_3_method_3_code 36 = .ok (.aload_n 0, 1) := by decide +kernel
theorem zd_Cutter_findBreak_37 : decode prog_3_method_3_code 37 = .ok (.getfield 12, 3) := by decide +kernel
theorem zd_Cutter_findBreak_40 : decode prog_3_method_3_code 40 = .ok (.getfield 62, 3) := by decide +kernel
theorem zd_Cutter_findBreak_43 : decode prog_3_method_3_code 43 = .ok (.l2i, 1) := by decide +kernel
theorem zd_Cutter_findBreak_44 : decode prog_3_method_3_code 44 = .ok (.aload_n 0, 1) := by decide +kernel
theorem zd_Cutter_findBreak_45 : decode prog_3_method_3_code 45 = .ok (.getfield 12, 3) := by decide +kernel
theorem zd_Cutter_findBreak_48 : decode prog_3_method_3_code 48 = .ok (.getfield 66, 3) := by decide +kernel
theorem zd_Cutter_findBreak_51 : decode prog_3_method_3_code 51 = .ok (.l2i, 1) := by decide +kernel
theorem zd_Cutter_findBreak_52 : decode prog_3_method_3_code 52 = .ok (.aload_n 0, 1) := by decide +kernel
theorem zd_Cutter_findBreak_53 : decode prog_3_method_3_code 53 = .ok (.getfield 21, 3) := by decide +kernel
theorem zd_Cutter_findBreak_56 : decode prog_3_method_3_code 56 = .ok (.invokevirtual 54, 3) := by decide +kernel
theorem zd_Cutter_findBreak_59 : decode prog_3_method_3_code 59 = .ok (.aload_n 0, 1) := by decide +kernel
theorem zd_Cutter_findBreak_60 : decode prog_3_method_3_code 60 = .ok (.aload_n 2, 1) := by decide +kernel
theorem zd_Cutter_findBreak_61 : decode prog_3_method_3_code 61 = .ok (.invokevirtual 58, 3) := by decide +kernel
theorem zd_Cutter_findBreak_64 : decode prog_3_method_3_code 64 = .ok (.istore 4, 2) := by decide +kernel
theorem zd_Cutter_findBreak_66 : decode prog_3_method_3_code 66 = .ok (.iinc 5 1, 3) := by decide +kernel
theorem zd_Cutter_findBreak_69 : decode prog_3_method_3_code 69 = .ok (.goto (-47), 3) := by decide +kernel
theorem zd_Cutter_findBreak_72 : decode prog_3_method_3_code 72 = .ok (.iload 4, 2) := by decide +kernel
theorem zd_Cutter_findBreak_74 : decode prog_3_method_3_code 74 = .ok (.ireturn, 1) := by decide +kernel
def zm_Cutter_findWeakest : zg_M := (⟨"SurrogateTree$Cutter", "findWeakest", "([LSurrogateTree$Node;)Z"⟩, prog_3_method_4_code, 4, (some .boolean))
theorem zd_Cutter_findWeakest_0 : decode prog_3_method_4_code 0 = .ok (.iconst 0, 1) := by decide +kernel
theorem zd_Cutter_findWeakest_1 : decode prog_3_method_4_code 1 = .ok (.istore_n 2, 1) := by decide +kernel
theorem zd_Cutter_findWeakest_2 : decode prog_3_method_4_code 2 = .ok (.bipush 31, 2) := by decide +kernel
theorem zd_Cutter_findWeakest_4 : decode prog_3_method_4_code 4 = .ok (.istore_n 3, 1) := by decide +kernel
theorem zd_Cutter_findWeakest_5 : decode prog_3_method_4_code 5 = .ok (.iload_n 3, 1) := by decide +kernel
theorem zd_Cutter_findWeakest_6 : decode prog_3_method_4_code 6 = .ok (.iconst 1, 1) := by decide +kernel
theorem zd_Cutter_findWeakest_7 : decode prog_3_method_4_code 7 = .ok (.if_icmp .lt 161, 3) := by decide +kernel
theorem zd_Cutter_findWeakest_10 : decode prog_3_method_4_code 10 = .ok (.aload_n 0, 1) := by decide +kernel
theorem zd_Cutter_findWeakest_11 : decode prog_3_method_4_code 11 = .ok (.getfield 32, 3) := by decide +kernel
theorem zd_Cutter_findWeakest_14 : decode prog_3_method_4_code 14 = .ok (.iload_n 3, 1) := by decide +kernel
theorem zd_Cutter_findWeakest_15 : decode prog_3_method_4_code 15 = .ok (.iconst 1, 1) := by decide +kernel
theorem zd_Cutter_findWeakest_16 : decode prog_3_method_4_code 16 = .ok (.iastore, 1) := by decide +kernel
theorem zd_Cutter_findWeakest_17 : decode prog_3_method_4_code 17 = .ok (.aload_n 0, 1) := by decide +kernel
theorem zd_Cutter_findWeakest_18 : decode prog_3_method_4_code 18 = .ok (.getfield 35, 3) := by decide +kernel
theorem zd_Cutter_findWeakest_21 : decode prog_3_method_4_code 21 = .ok (.iload_n 3, 1) := by decide +kernel
theorem zd_Cutter_findWeakest_22 : decode prog_3_method_4_code 22 = .ok (.aload_n 1, 1) := by decide +kernel
theorem zd_Cutter_findWeakest_23 : decode prog_3_method_4_code 23 = .ok (.iload_n 3, 1) := by decide +kernel
theorem zd_Cutter_findWeakest_24 : decode prog_3_method_4_code 24 = .ok (.aaload, 1) := by decide +kernel
theorem zd_Cutter_findWeakest_25 : decode prog_3_method_4_code 25 = .ok (.getfield 42, 3) := by decide +kernel
theorem zd_Cutter_findWeakest_28 : decode prog_3_method_4_code 28 = .ok (.iastore, 1) := by decide +kernel
theorem zd_Cutter_findWeakest_29 : decode prog_3_method_4_code 29 = .ok (.aload_n 0, 1) := by decide +kernel
theorem zd_Cutter_findWeakest_30 : decode prog_3_method_4_code 30 = .ok (.getfield 21, 3) := by decide +kernel
theorem zd_Cutter_findWeakest_33 : decode prog_3_method_4_code 33 = .ok (.iload_n 3, 1) := by decide +kernel
theorem zd_Cutter_findWeakest_34 : decode prog_3_method_4_code 34 = .ok (.invokevirtual 38, 3) := by decide +kernel
theorem zd_Cutter_findWeakest_37 : decode prog_3_method_4_code 37 = .ok (.iconst 2, 1) := by decide +kernel
theorem zd_Cutter_findWeakest_38 : decode prog_3_method_4_code 38 = .ok (.if_icmp .ne 124, 3) := by decide +kernel
theorem zd_Cutter_findWeakest_41 : decode prog_3_method_4_code 41 = .ok (.iconst 2, 1) := by decide +kernel
theorem zd_Cutter_findWeakest_42 : decode prog_3_method_4_code 42 = .ok (.iload_n 3, 1) := by decide +kernel
theorem zd_Cutter_findWeakest_43 : decode prog_3_method_4_code 43 = .ok (.imul, 1) := by decide +kernel
theorem zd_Cutter_findWeakest_44 : decode prog_3_method_4_code 44 = .ok (.iconst 1, 1) := by decide +kernel
theorem zd_Cutter_findWeakest_45 : decode prog_3_method_4_code 45 = .ok (.iadd, 1) := by decide +kernel
theorem zd_Cutter_findWeakest_46 : decode prog_3_method_4_code 46 = .ok (.bipush 32, 2) := by decide +kernel
theorem zd_Cutter_findWeakest_48 : decode prog_3_method_4_code 48 = .ok (.if_icmp .ge 114, 3) := by decide +kernel
theorem zd_Cutter_findWeakest_51 : decode prog_3_method_4_code 51 = .ok (.aload_n 0, 1) := by decide +kernel
theorem zd_Cutter_findWeakest_52 : decode prog_3_method_4_code 52 = .ok (.getfield 32, 3) := by decide +kernel
theorem zd_Cutter_findWeakest_55 : decode prog_3_method_4_code 55 = .ok (.iload_n 3, 1) := by decide +kernel
theorem zd_Cutter_findWeakest_56 : decode prog_3_method_4_code 56 = .ok (.aload_n 0, 1) := by decide +kernel
theorem zd_Cutter_findWeakest_57 : decode prog_3_method_4_code 57 = .ok (.getfield 32, 3) := by decide +kernel
theorem zd_Cutter_findWeakest_60 : decode prog_3_method_4_code 60 = .ok (.iconst 2, 1) := by decide +kernel
theorem zd_Cutter_findWeakest_61 : decode prog_3_method_4_code 61 = .ok (.iload_n 3, 1) := by decide +kernel
theorem zd_Cutter_findWeakest_62 : decode prog_3_method_4_code 62 = .ok (.imul, 1) := by decide +kernel
theorem zd_Cutter_findWeakest_63 : decode prog_3_method_4_code 63 = .ok (.iaload, 1) := by decide +kernel
theorem zd_Cutter_findWeakest_64 : decode prog_3_method_4_code 64 = .ok (.aload_n 0, 1) := by decide +kernel
theorem zd_Cutter_findWeakest_65 : decode prog_3_method_4_code 65 = .ok (.getfield 32, 3) := by decide +kernel
theorem zd_Cutter_findWeakest_68 : decode prog_3_method_4_code 68 = .ok (.iconst 2, 1) := by decide +kernel
theorem zd_Cutter_findWeakest_69 : decode prog_3_method_4_code 69 = .ok (.iload_n 3, 1) := by decide +kernel
theorem zd_Cutter_findWeakest_70 : decode prog_3_method_4_code 70 = .ok (.imul, 1) := by decide +kernel
theorem zd_Cutter_findWeakest_71 : decode prog_3_method_4_code 71 = .ok (.iconst 1, 1) := by decide +kernel
theorem zd_Cutter_findWeakest_72 : decode prog_3_method_4_code 72 = .ok (.iadd, 1) := by decide +kernel
theorem zd_Cutter_findWeakest_73 : decode prog_3_method_4_code 73 = .ok (.iaload, 1) := by decide +kernel
theorem zd_Cutter_findWeakest_74 : decode prog_3_method_4_code 74 = .ok (.iadd, 1) := by decide +kernel
theorem zd_Cutter_findWeakest_75 : decode prog_3_method_4_code 75 = .ok (.iastore, 1) := by decide +kernel
theorem zd_Cutter_findWeakest_76 : decode prog_3_method_4_code 76 = .ok (.aload_n 0, 1) := by decide +kernel
theorem zd_Cutter_findWeakest_77 : decode prog_3_method_4_code 77 = .ok (.getfield 35, 3) := by decide +kernel
theorem zd_Cutter_findWeakest_80 : decode prog_3_method_4_code 80 = .ok (.iload_n 3, 1) := by decide +kernel
theorem zd_Cutter_findWeakest_81 : decode prog_3_method_4_code 81 = .ok (.aload_n 0, 1) := by decide +kernel
theorem zd_Cutter_findWeakest_82 : decode prog_3_method_4_code 82 = .ok (.getfield 35, 3) := by decide +kernel
theorem zd_Cutter_findWeakest_85 : decode prog_3_method_4_code 85 = .ok (.iconst 2, 1) := by decide +kernel
theorem zd_Cutter_findWeakest_86 : decode prog_3_method_4_code 86 = .ok (.iload_n 3, 1) := by decide +kernel
theorem zd_Cutter_findWeakest_87 : decode prog_3_method_4_code 87 = .ok (.imul, 1) := by decide +kernel
theorem zd_Cutter_findWeakest_88 : decode prog_3_method_4_code 88 = .ok (.iaload, 1) := by decide +kernel
theorem zd_Cutter_findWeakest_89 : decode prog_3_method_4_code 89 = .ok (.aload_n 0, 1) := by decide +kernel
theorem zd_Cutter_findWeakest_90 : decode prog_3_method_4_code 90 = .ok (.getfield 35, 3) := by decide +kernel
theorem zd_Cutter_findWeakest_93 : decode prog_3_method_4_code 93 = .ok (.iconst 2, 1) := by decide +kernel
theorem zd_Cutter_findWeakest_94 : decode prog_3_method_4_code 94 = .ok (.iload_n 3, 1) := by decide +kernel
theorem zd_Cutter_findWeakest_95 : decode prog_3_method_4_code 95 = .ok (.imul, 1) := by decide +kernel
theorem zd_Cutter_findWeakest_96 : decode prog_3_method_4_code 96 = .ok (.iconst 1, 1) := by decide +kernel
theorem zd_Cutter_findWeakest_97 : decode prog_3_method_4_code 97 = .ok (.iadd, 1) := by decide +kernel
theorem zd_Cutter_findWeakest_98 : decode prog_3_method_4_code 98 = .ok (.iaload, 1) := by decide +kernel
theorem zd_Cutter_findWeakest_99 : decode prog_3_method_4_code 99 = .ok (.iadd, 1) := by decide +kernel
theorem zd_Cutter_findWeakest_100 : decode prog_3_method_4_code 100 = .ok (.iastore, 1) := by decide +kernel
theorem zd_Cutter_findWeakest_101 : decode prog_3_method_4_code 101 = .ok (.aload_n 0, 1) := by decide +kernel
theorem zd_Cutter_findWeakest_102 : decode prog_3_method_4_code 102 = .ok (.getfield 25, 3) := by decide +kernel
theorem zd_Cutter_findWeakest_105 : decode prog_3_method_4_code 105 = .ok (.aload_n 1, 1) := by decide +kernel
theorem zd_Cutter_findWeakest_106 : decode prog_3_method_4_code 106 = .ok (.iload_n 3, 1) := by decide +kernel
theorem zd_Cutter_findWeakest_107 : decode prog_3_method_4_code 107 = .ok (.aaload, 1) := by decide +kernel
theorem zd_Cutter_findWeakest_108 : decode prog_3_method_4_code 108 = .ok (.getfield 42, 3) := by decide +kernel
theorem zd_Cutter_findWeakest_111 : decode prog_3_method_4_code 111 = .ok (.aload_n 0, 1) := by decide +kernel
theorem zd_Cutter_findWeakest_112 : decode prog_3_method_4_code 112 = .ok (.getfield 35, 3) := by decide +kernel
theorem zd_Cutter_findWeakest_115 : decode prog_3_method_4_code 115 = .ok (.iload_n 3, 1) := by decide +kernel
theorem zd_Cutter_findWeakest_116 : decode prog_3_method_4_code 116 = .ok (.iaload, 1) := by decide +kernel
theorem zd_Cutter_findWeakest_117 : decode prog_3_method_4_code 117 = .ok (.isub, 1) := by decide +kernel
theorem zd_Cutter_findWeakest_118 : decode prog_3_method_4_code 118 = .ok (.i2l, 1) := by decide +kernel
theorem zd_Cutter_findWeakest_119 : decode prog_3_method_4_code 119 = .ok (.aload_n 0, 1) := by decide +kernel
theorem zd_Cutter_findWeakest_120 : decode prog_3_method_4_code 120 = .ok (.getfield 32, 3) := by decide +kernel
theorem zd_Cutter_findWeakest_123 : decode prog_3_method_4_code 123 = .ok (.iload_n 3, 1) := by decide +kernel
theorem zd_Cutter_findWeakest_124 : decode prog_3_method_4_code 124 = .ok (.iaload, 1) := by decide +kernel
theorem zd_Cutter_findWeakest_125 : decode prog_3_method_4_code 125 = .ok (.iconst 1, 1) := by decide +kernel
theorem zd_Cutter_findWeakest_126 : decode prog_3_method_4_code 126 = .ok (.isub, 1) := by decide +kernel
theorem zd_Cutter_findWeakest_127 : decode prog_3_method_4_code 127 = .ok (.i2l, 1) := by decide +kernel
theorem zd_Cutter_findWeakest_128 : decode prog_3_method_4_code 128 = .ok (.invokevirtual 69, 3) := by decide +kernel
theorem zd_Cutter_findWeakest_131 : decode prog_3_method_4_code 131 = .ok (.iload_n 2, 1) := by decide +kernel
theorem zd_Cutter_findWeakest_132 : decode prog_3_method_4_code 132 = .ok (.ifCond .eq 17, 3) := by decide +kernel
theorem zd_Cutter_findWeakest_135 : decode prog_3_method_4_code 135 = .ok (.aload_n 0, 1) := by decide +kernel
theorem zd_Cutter_findWeakest_136 : decode prog_3_method_4_code 136 = .ok (.getfield 12, 3) := by decide +kernel
theorem zd_Cutter_findWeakest_139 : decode prog_3_method_4_code 139 = .ok (.aload_n 0, 1) := by decide +kernel
theorem zd_Cutter_findWeakest_140 : decode prog_3_method_4_code 140 = .ok (.getfield 25, 3) := by decide +kernel
theorem zd_Cutter_findWeakest_143 : decode prog_3_method_4_code 143 = .ok (.invokevirtual 73, 3) := by decide +kernel
theorem zd_Cutter_findWeakest_146 : decode prog_3_method_4_code 146 = .ok (.ifCond .eq 16, 3) := by decide +kernel
theorem zd_Cutter_findWeakest_149 : decode prog_3_method_4_code 149 = .ok (.aload_n 0, 1) := by decide +kernel
theorem zd_Cutter_findWeakest_150 : decode prog_3_method_4_code 150 = .ok (.getfield 12, 3) := by decide +kernel
theorem zd_Cutter_findWeakest_153 : decode prog_3_method_4_code 153 = .ok (.aload_n 0, 1) := by decide +kernel
theorem zd_Cutter_findWeakest_154 : decode prog_3_method_4_code 154 = .ok (.getfield 25, 3) := by decide +kernel
theorem zd_Cutter_findWeakest_157 : decode prog_3_method_4_code 157 = .ok (.invokevirtual 77, 3) := by decide +kernel
theorem zd_Cutter_findWeakest_160 : decode prog_3_method_4_code 160 = .ok (.iconst 1, 1) := by decide +kernel
theorem zd_Cutter_findWeakest_161 : decode prog_3_method_4_code 161 = .ok (.istore_n 2, 1) := by decide +kernel
theorem zd_Cutter_findWeakest_162 : decode prog_3_method_4_code 162 = .ok (.iinc 3 (-1), 3) := by decide +kernel
theorem zd_Cutter_findWeakest_165 : decode prog_3_method_4_code 165 = .ok (.goto (-160), 3) := by decide +kernel
theorem zd_Cutter_findWeakest_168 : decode prog_3_method_4_code 168 = .ok (.iload_n 2, 1) := by decide +kernel
theorem zd_Cutter_findWeakest_169 : decode prog_3_method_4_code 169 = .ok (.ireturn, 1) := by decide +kernel
def zm_Tree_tally : zg_M := (⟨"SurrogateTree", "tally", "()I"⟩, prog_1_method_18_code, 3, (some .int))
theorem zd_Tree_tally_0 : decode prog_1_method_18_code 0 = .ok (.aload_n 0, 1) := by decide +kernel
theorem zd_Tree_tally_1 : decode prog_1_method_18_code 1 = .ok (.getfield 33, 3) := by decide +kernel
theorem zd_Tree_tally_4 : decode prog_1_method_18_code 4 = .ok (.invokevirtual 116, 3) := by decide +kernel
theorem zd_Tree_tally_7 : decode prog_1_method_18_code 7 = .ok (.ifCond .eq 5, 3) := by decide +kernel
theorem zd_Tree_tally_10 : decode prog_1_method_18_code 10 = .ok (.iconst (-1), 1) := by decide +kernel
theorem zd_Tree_tally_11 : decode prog_1_method_18_code 11 = .ok (.ireturn, 1) := by decide +kernel
theorem zd_Tree_tally_12 : decode prog_1_method_18_code 12 = .ok (.iconst 0, 1) := by decide +kernel
theorem zd_Tree_tally_13 : decode prog_1_method_18_code 13 = .ok (.istore_n 1, 1) := by decide +kernel
theorem zd_Tree_tally_14 : decode prog_1_method_18_code 14 = .ok (.iconst 0, 1) := by decide +kernel
theorem zd_Tree_tally_15 : decode prog_1_method_18_code 15 = .ok (.istore_n 2, 1) := by decide +kernel
theorem zd_Tree_tally_16 : decode prog_1_method_18_code 16 = .ok (.iload_n 2, 1) := by decide +kernel
theorem zd_Tree_tally_17 : decode prog_1_method_18_code 17 = .ok (.aload_n 0, 1) := by decide +kernel
theorem zd_Tree_tally_18 : decode prog_1_method_18_code 18 = .ok (.getfield 10, 3) := by decide +kernel
theorem zd_Tree_tally_21 : decode prog_1_method_18_code 21 = .ok (.getfield 82, 3) := by decide +kernel
theorem zd_Tree_tally_24 : decode prog_1_method_18_code 24 = .ok (.if_icmp .ge 53, 3) := by decide +kernel
theorem zd_Tree_tally_27 : decode prog_1_method_18_code 27 = .ok (.aload_n 0, 1) := by decide +kernel
theorem zd_Tree_tally_28 : decode prog_1_method_18_code 28 = .ok (.getfield 10, 3) := by decide +kernel
theorem zd_Tree_tally_31 : decode prog_1_method_18_code 31 = .ok (.getfield 113, 3) := by decide +kernel
theorem zd_Tree_tally_34 : decode prog_1_method_18_code 34 = .ok (.iload_n 2, 1) := by decide +kernel
theorem zd_Tree_tally_35 : decode prog_1_method_18_code 35 = .ok (.iaload, 1) := by decide +kernel
theorem zd_Tree_tally_36 : decode prog_1_method_18_code 36 = .ok (.ifCond .ne 35, 3) := by decide +kernel
theorem zd_Tree_tally_39 : decode prog_1_method_18_code 39 = .ok (.aload_n 0, 1) := by decide +kernel
theorem zd_Tree_tally_40 : decode prog_1_method_18_code 40 = .ok (.getfield 19, 3) := by decide +kernel
theorem zd_Tree_tally_43 : decode prog_1_method_18_code 43 = .ok (.iload_n 2, 1) := by decide +kernel
theorem zd_Tree_tally_44 : decode prog_1_method_18_code 44 = .ok (.aload_n 0, 1) := by decide +kernel
theorem zd_Tree_tally_45 : decode prog_1_method_18_code 45 = .ok (.getfield 25, 3) := by decide +kernel
theorem zd_Tree_tally_48 : decode prog_1_method_18_code 48 = .ok (.aload_n 0, 1) := by decide +kernel
theorem zd_Tree_tally_49 : decode prog_1_method_18_code 49 = .ok (.aload_n 0, 1) := by decide +kernel
theorem zd_Tree_tally_50 : decode prog_1_method_18_code 50 = .ok (.getfield 10, 3) := by decide +kernel
theorem zd_Tree_tally_53 : decode prog_1_method_18_code 53 = .ok (.getfield 194, 3) := by decide +kernel
theorem zd_Tree_tally_56 : decode prog_1_method_18_code 56 = .ok (.iload_n 2, 1) := by decide +kernel
theorem zd_Tree_tally_57 : decode prog_1_method_18_code 57 = .ok (.aaload, 1) := by decide +kernel
theorem zd_Tree_tally_58 : decode prog_1_method_18_code 58 = .ok (.invokevirtual 171, 3) := by decide +kernel
theorem zd_Tree_tally_61 : decode prog_1_method_18_code 61 = .ok (.aaload, 1) := by decide +kernel
theorem zd_Tree_tally_62 : decode prog_1_method_18_code 62 = .ok (.getfield 165, 3) := by decide +kernel
theorem zd_Tree_tally_65 : decode prog_1_method_18_code 65 = .ok (.invokevirtual 198, 3) := by decide +kernel
theorem zd_Tree_tally_68 : decode prog_1_method_18_code 68 = .ok (.iinc 1 1, 3) := by decide +kernel
theorem zd_Tree_tally_71 : decode prog_1_method_18_code 71 = .ok (.iinc 2 1, 3) := by decide +kernel
theorem zd_Tree_tally_74 : decode prog_1_method_18_code 74 = .ok (.goto (-58), 3) := by decide +kernel
theorem zd_Tree_tally_77 : decode prog_1_method_18_code 77 = .ok (.iload_n 1, 1) := by decide +kernel
theorem zd_Tree_tally_78 : decode prog_1_method_18_code 78 = .ok (.ireturn, 1) := by decide +kernel
def zm_Tree_votes : zg_M := (⟨"SurrogateTree", "votes", "(II)I"⟩, prog_1_method_19_code, 3, (some .int))
theorem zd_Tree_votes_0 : decode prog_1_method_19_code 0 = .ok (.aload_n 0, 1) := by decide +kernel
theorem zd_Tree_votes_1 : decode prog_1_method_19_code 1 = .ok (.getfield 10, 3) := by decide +kernel
theorem zd_Tree_votes_4 : decode prog_1_method_19_code 4 = .ok (.iload_n 1, 1) := by decide +kernel
theorem zd_Tree_votes_5 : decode prog_1_method_19_code 5 = .ok (.invokevirtual 110, 3) := by decide +kernel
theorem zd_Tree_votes_8 : decode prog_1_method_19_code 8 = .ok (.ifCond .eq 24, 3) := by decide +kernel
theorem zd_Tree_votes_11 : decode prog_1_method_19_code 11 = .ok (.iload_n 2, 1) := by decide +kernel
theorem zd_Tree_votes_12 : decode prog_1_method_19_code 12 = .ok (.invokestatic 78, 3) := by decide +kernel
theorem zd_Tree_votes_15 : decode prog_1_method_19_code 15 = .ok (.ifCond .eq 17, 3) := by decide +kernel
theorem zd_Tree_votes_18 : decode prog_1_method_19_code 18 = .ok (.aload_n 0, 1) := by decide +kernel
theorem zd_Tree_votes_19 : decode prog_1_method_19_code 19 = .ok (.getfield 19, 3) := by decide +kernel
theorem zd_Tree_votes_22 : decode prog_1_method_19_code 22 = .ok (.getfield 202, 3) := by decide +kernel
theorem zd_Tree_votes_25 : decode prog_1_method_19_code 25 = .ok (.iload_n 1, 1) := by decide +kernel
theorem zd_Tree_votes_26 : decode prog_1_method_19_code 26 = .ok (.aaload, 1) := by decide +kernel
theorem zd_Tree_votes_27 : decode prog_1_method_19_code 27 = .ok (.iload_n 2, 1) := by decide +kernel
theorem zd_Tree_votes_28 : decode prog_1_method_19_code 28 = .ok (.iaload, 1) := by decide +kernel
theorem zd_Tree_votes_29 : decode prog_1_method_19_code 29 = .ok (.goto 4, 3) := by decide +kernel
theorem zd_Tree_votes_32 : decode prog_1_method_19_code 32 = .ok (.iconst (-1), 1) := by decide +kernel
theorem zd_Tree_votes_33 : decode prog_1_method_19_code 33 = .ok (.ireturn, 1) := by decide +kernel
def zm_Tree_wrong : zg_M := (⟨"SurrogateTree", "wrong", "()I"⟩, prog_1_method_20_code, 4, (some .int))
theorem zd_Tree_wrong_0 : decode prog_1_method_20_code 0 = .ok (.iconst 0, 1) := by decide +kernel
theorem zd_Tree_wrong_1 : decode prog_1_method_20_code 1 = .ok (.istore_n 1, 1) := by decide +kernel
theorem zd_Tree_wrong_2 : decode prog_1_method_20_code 2 = .ok (.iconst 0, 1) := by decide +kernel
theorem zd_Tree_wrong_3 : decode prog_1_method_20_code 3 = .ok (.istore_n 2, 1) := by decide +kernel
theorem zd_Tree_wrong_4 : decode prog_1_method_20_code 4 = .ok (.iload_n 2, 1) := by decide +kernel
theorem zd_Tree_wrong_5 : decode prog_1_method_20_code 5 = .ok (.aload_n 0, 1) := by decide +kernel
theorem zd_Tree_wrong_6 : decode prog_1_method_20_code 6 = .ok (.getfield 10, 3) := by decide +kernel
theorem zd_Tree_wrong_9 : decode prog_1_method_20_code 9 = .ok (.getfield 82, 3) := by decide +kernel
theorem zd_Tree_wrong_12 : decode prog_1_method_20_code 12 = .ok (.if_icmp .ge 38, 3) := by decide +kernel
theorem zd_Tree_wrong_15 : decode prog_1_method_20_code 15 = .ok (.aload_n 0, 1) := by decide +kernel
theorem zd_Tree_wrong_16 : decode prog_1_method_20_code 16 = .ok (.getfield 19, 3) := by decide +kernel
theorem zd_Tree_wrong_19 : decode prog_1_method_20_code 19 = .ok (.iload_n 2, 1) := by decide +kernel
theorem zd_Tree_wrong_20 : decode prog_1_method_20_code 20 = .ok (.invokevirtual 205, 3) := by decide +kernel
theorem zd_Tree_wrong_23 : decode prog_1_method_20_code 23 = .ok (.istore_n 3, 1) := by decide +kernel
theorem zd_Tree_wrong_24 : decode prog_1_method_20_code 24 = .ok (.iload_n 3, 1) := by decide +kernel
theorem zd_Tree_wrong_25 : decode prog_1_method_20_code 25 = .ok (.ifCond .lt 19, 3) := by decide +kernel
theorem zd_Tree_wrong_28 : decode prog_1_method_20_code 28 = .ok (.iload_n 3, 1) := by decide +kernel
theorem zd_Tree_wrong_29 : decode prog_1_method_20_code 29 = .ok (.aload_n 0, 1) := by decide +kernel
theorem zd_Tree_wrong_30 : decode prog_1_method_20_code 30 = .ok (.getfield 10, 3) := by decide +kernel
theorem zd_Tree_wrong_33 : decode prog_1_method_20_code 33 = .ok (.getfield 208, 3) := by decide +kernel
theorem zd_Tree_wrong_36 : decode prog_1_method_20_code 36 = .ok (.iload_n 2, 1) := by decide +kernel
theorem zd_Tree_wrong_37 : decode prog_1_method_20_code 37 = .ok (.iaload, 1) := by decide +kernel
theorem zd_Tree_wrong_38 : decode prog_1_method_20_code 38 = .ok (.if_icmp .eq 6, 3) := by decide +kernel
theorem zd_Tree_wrong_41 : decode prog_1_method_20_code 41 = .ok (.iinc 1 1, 3) := by decide +kernel
theorem zd_Tree_wrong_44 : decode prog_1_method_20_code 44 = .ok (.iinc 2 1, 3) := by decide +kernel
theorem zd_Tree_wrong_47 : decode prog_1_method_20_code 47 = .ok (.goto (-43), 3) := by decide +kernel
theorem zd_Tree_wrong_50 : decode prog_1_method_20_code 50 = .ok (.iload_n 1, 1) := by decide +kernel
theorem zd_Tree_wrong_51 : decode prog_1_method_20_code 51 = .ok (.ireturn, 1) := by decide +kernel
end
section
def zm_Ref_init : zg_M := (⟨"SurrogateTreeModel", "<init>", "()V"⟩, prog_13_method_1_code, 1, none)
theorem zd_Ref_init_0 : decode prog_13_method_1_code 0 = .ok (.aload_n 0, 1) := by decide +kernel
theorem zd_Ref_init_1 : decode prog_13_method_1_code 1 = .ok (.invokespecial 1, 3) := by decide +kernel
theorem zd_Ref_init_4 : decode prog_13_method_1_code 4 = .ok (.aload_n 0, 1) := by decide +kernel
theorem zd_Ref_init_5 : decode prog_13_method_1_code 5 = .ok (.bipush 48, 2) := by decide +kernel
theorem zd_Ref_init_7 : decode prog_13_method_1_code 7 = .ok (.newarray .int, 2) := by decide +kernel
theorem zd_Ref_init_9 : decode prog_13_method_1_code 9 = .ok (.putfield 7, 3) := by decide +kernel
theorem zd_Ref_init_12 : decode prog_13_method_1_code 12 = .ok (.aload_n 0, 1) := by decide +kernel
theorem zd_Ref_init_13 : decode prog_13_method_1_code 13 = .ok (.bipush 16, 2) := by decide +kernel
theorem zd_Ref_init_15 : decode prog_13_method_1_code 15 = .ok (.newarray .int, 2) := by decide +kernel
theorem zd_Ref_init_17 : decode prog_13_method_1_code 17 = .ok (.putfield 13, 3) := by decide +kernel
theorem zd_Ref_init_20 : decode prog_13_method_1_code 20 = .ok (.aload_n 0, 1) := by decide +kernel
theorem zd_Ref_init_21 : decode prog_13_method_1_code 21 = .ok (.bipush 16, 2) := by decide +kernel
theorem zd_Ref_init_23 : decode prog_13_method_1_code 23 = .ok (.newarray .int, 2) := by decide +kernel
theorem zd_Ref_init_25 : decode prog_13_method_1_code 25 = .ok (.putfield 16, 3) := by decide +kernel
theorem zd_Ref_init_28 : decode prog_13_method_1_code 28 = .ok (.aload_n 0, 1) := by decide +kernel
theorem zd_Ref_init_29 : decode prog_13_method_1_code 29 = .ok (.bipush 64, 2) := by decide +kernel
theorem zd_Ref_init_31 : decode prog_13_method_1_code 31 = .ok (.newarray .int, 2) := by decide +kernel
theorem zd_Ref_init_33 : decode prog_13_method_1_code 33 = .ok (.putfield 19, 3) := by decide +kernel
theorem zd_Ref_init_36 : decode prog_13_method_1_code 36 = .ok (.aload_n 0, 1) := by decide +kernel
theorem zd_Ref_init_37 : decode prog_13_method_1_code 37 = .ok (.iconst 4, 1) := by decide +kernel
theorem zd_Ref_init_38 : decode prog_13_method_1_code 38 = .ok (.putfield 22, 3) := by decide +kernel
theorem zd_Ref_init_41 : decode prog_13_method_1_code 41 = .ok (.aload_n 0, 1) := by decide +kernel
theorem zd_Ref_init_42 : decode prog_13_method_1_code 42 = .ok (.iconst 1, 1) := by decide +kernel
theorem zd_Ref_init_43 : decode prog_13_method_1_code 43 = .ok (.putfield 26, 3) := by decide +kernel
theorem zd_Ref_init_46 : decode prog_13_method_1_code 46 = .ok (.aload_n 0, 1) := by decide +kernel
theorem zd_Ref_init_47 : decode prog_13_method_1_code 47 = .ok (.bipush 32, 2) := by decide +kernel
theorem zd_Ref_init_49 : decode prog_13_method_1_code 49 = .ok (.newarray .int, 2) := by decide +kernel
theorem zd_Ref_init_51 : decode prog_13_method_1_code 51 = .ok (.putfield 29, 3) := by decide +kernel
theorem zd_Ref_init_54 : decode prog_13_method_1_code 54 = .ok (.aload_n 0, 1) := by decide +kernel
theorem zd_Ref_init_55 : decode prog_13_method_1_code 55 = .ok (.bipush 32, 2) := by decide +kernel
theorem zd_Ref_init_57 : decode prog_13_method_1_code 57 = .ok (.newarray .int, 2) := by decide +kernel
theorem zd_Ref_init_59 : decode prog_13_method_1_code 59 = .ok (.putfield 32, 3) := by decide +kernel
theorem zd_Ref_init_62 : decode prog_13_method_1_code 62 = .ok (.aload_n 0, 1) := by decide +kernel
theorem zd_Ref_init_63 : decode prog_13_method_1_code 63 = .ok (.bipush 32, 2) := by decide +kernel
theorem zd_Ref_init_65 : decode prog_13_method_1_code 65 = .ok (.newarray .int, 2) := by decide +kernel
theorem zd_Ref_init_67 : decode prog_13_method_1_code 67 = .ok (.putfield 35, 3) := by decide +kernel
theorem zd_Ref_init_70 : decode prog_13_method_1_code 70 = .ok (.aload_n 0, 1) := by decide +kernel
theorem zd_Ref_init_71 : decode prog_13_method_1_code 71 = .ok (.bipush 32, 2) := by decide +kernel
theorem zd_Ref_init_73 : decode prog_13_method_1_code 73 = .ok (.newarray .int, 2) := by decide +kernel
theorem zd_Ref_init_75 : decode prog_13_method_1_code 75 = .ok (.putfield 38, 3) := by decide +kernel
theorem zd_Ref_init_78 : decode prog_13_method_1_code 78 = .ok (.aload_n 0, 1) := by decide +kernel
theorem zd_Ref_init_79 : decode prog_13_method_1_code 79 = .ok (.iconst 2, 1) := by decide +kernel
theorem zd_Ref_init_80 : decode prog_13_method_1_code 80 = .ok (.newarray .int, 2) := by decide +kernel
theorem zd_Ref_init_82 : decode prog_13_method_1_code 82 = .ok (.putfield 41, 3) := by decide +kernel
theorem zd_Ref_init_85 : decode prog_13_method_1_code 85 = .ok (.aload_n 0, 1) := by decide +kernel
theorem zd_Ref_init_86 : decode prog_13_method_1_code 86 = .ok (.iconst 2, 1) := by decide +kernel
theorem zd_Ref_init_87 : decode prog_13_method_1_code 87 = .ok (.newarray .int, 2) := by decide +kernel
theorem zd_Ref_init_89 : decode prog_13_method_1_code 89 = .ok (.putfield 44, 3) := by decide +kernel
theorem zd_Ref_init_92 : decode prog_13_method_1_code 92 = .ok (.aload_n 0, 1) := by decide +kernel
theorem zd_Ref_init_93 : decode prog_13_method_1_code 93 = .ok (.iconst 2, 1) := by decide +kernel
theorem zd_Ref_init_94 : decode prog_13_method_1_code 94 = .ok (.newarray .int, 2) := by decide +kernel
theorem zd_Ref_init_96 : decode prog_13_method_1_code 96 = .ok (.putfield 47, 3) := by decide +kernel
theorem zd_Ref_init_99 : decode prog_13_method_1_code 99 = .ok (.aload_n 0, 1) := by decide +kernel
theorem zd_Ref_init_100 : decode prog_13_method_1_code 100 = .ok (.iconst 2, 1) := by decide +kernel
theorem zd_Ref_init_101 : decode prog_13_method_1_code 101 = .ok (.newarray .int, 2) := by decide +kernel
theorem zd_Ref_init_103 : decode prog_13_method_1_code 103 = .ok (.putfield 50, 3) := by decide +kernel
theorem zd_Ref_init_106 : decode prog_13_method_1_code 106 = .ok (.aload_n 0, 1) := by decide +kernel
theorem zd_Ref_init_107 : decode prog_13_method_1_code 107 = .ok (.bipush 32, 2) := by decide +kernel
theorem zd_Ref_init_109 : decode prog_13_method_1_code 109 = .ok (.newarray .int, 2) := by decide +kernel
theorem zd_Ref_init_111 : decode prog_13_method_1_code 111 = .ok (.putfield 53, 3) := by decide +kernel
theorem zd_Ref_init_114 : decode prog_13_method_1_code 114 = .ok (.aload_n 0, 1) := by decide +kernel
theorem zd_Ref_init_115 : decode prog_13_method_1_code 115 = .ok (.bipush 32, 2) := by decide +kernel
theorem zd_Ref_init_117 : decode prog_13_method_1_code 117 = .ok (.newarray .long, 2) := by decide +kernel
theorem zd_Ref_init_119 : decode prog_13_method_1_code 119 = .ok (.putfield 56, 3) := by decide +kernel
theorem zd_Ref_init_122 : decode prog_13_method_1_code 122 = .ok (.aload_n 0, 1) := by decide +kernel
theorem zd_Ref_init_123 : decode prog_13_method_1_code 123 = .ok (.bipush 32, 2) := by decide +kernel
theorem zd_Ref_init_125 : decode prog_13_method_1_code 125 = .ok (.newarray .int, 2) := by decide +kernel
theorem zd_Ref_init_127 : decode prog_13_method_1_code 127 = .ok (.putfield 60, 3) := by decide +kernel
theorem zd_Ref_init_130 : decode prog_13_method_1_code 130 = .ok (.aload_n 0, 1) := by decide +kernel
theorem zd_Ref_init_131 : decode prog_13_method_1_code 131 = .ok (.bipush 32, 2) := by decide +kernel
theorem zd_Ref_init_133 : decode prog_13_method_1_code 133 = .ok (.newarray .boolean, 2) := by decide +kernel
theorem zd_Ref_init_135 : decode prog_13_method_1_code 135 = .ok (.putfield 63, 3) := by decide +kernel
theorem zd_Ref_init_138 : decode prog_13_method_1_code 138 = .ok (.aload_n 0, 1) := by decide +kernel
theorem zd_Ref_init_139 : decode prog_13_method_1_code 139 = .ok (.bipush 16, 2) := by decide +kernel
theorem zd_Ref_init_141 : decode prog_13_method_1_code 141 = .ok (.newarray .int, 2) := by decide +kernel
theorem zd_Ref_init_143 : decode prog_13_method_1_code 143 = .ok (.putfield 67, 3) := by decide +kernel
theorem zd_Ref_init_146 : decode prog_13_method_1_code 146 = .ok (.aload_n 0, 1) := by decide +kernel
theorem zd_Ref_init_147 : decode prog_13_method_1_code 147 = .ok (.bipush 16, 2) := by decide +kernel
theorem zd_Ref_init_149 : decode prog_13_method_1_code 149 = .ok (.newarray .int, 2) := by decide +kernel
theorem zd_Ref_init_151 : decode prog_13_method_1_code 151 = .ok (.putfield 70, 3) := by decide +kernel
theorem zd_Ref_init_154 : decode prog_13_method_1_code 154 = .ok (.aload_n 0, 1) := by decide +kernel
theorem zd_Ref_init_155 : decode prog_13_method_1_code 155 = .ok (.invokevirtual 73, 3) := by decide +kernel
theorem zd_Ref_init_158 : decode prog_13_method_1_code 158 = .ok (.return_, 1) := by decide +kernel
def zm_Ref_anew : zg_M := (⟨"SurrogateTreeModel", "anew", "()V"⟩, prog_13_method_2_code, 2, none)
theorem zd_Ref_anew_0 : decode prog_13_method_2_code 0 = .ok (.iconst 0, 1) := by decide +kernel
theorem zd_Ref_anew_1 : decode prog_13_method_2_code 1 = .ok (.istore_n 1, 1) := by decide +kernel
theorem zd_Ref_anew_2 : decode prog_13_method_2_code 2 = .ok (.iload_n 1, 1) := by decide +kernel
theorem zd_Ref_anew_3 : decode prog_13_method_2_code 3 = .ok (.bipush 32, 2) := by decide +kernel
theorem zd_Ref_anew_5 : decode prog_13_method_2_code 5 = .ok (.if_icmp .ge 23, 3) := by decide +kernel
theorem zd_Ref_anew_8 : decode prog_13_method_2_code 8 = .ok (.aload_n 0, 1) := by decide +kernel
theorem zd_Ref_anew_9 : decode prog_13_method_2_code 9 = .ok (.getfield 29, 3) := by decide +kernel
theorem zd_Ref_anew_12 : decode prog_13_method_2_code 12 = .ok (.iload_n 1, 1) := by decide +kernel
theorem zd_Ref_anew_13 : decode prog_13_method_2_code 13 = .ok (.iconst 0, 1) := by decide +kernel
theorem zd_Ref_anew_14 : decode prog_13_method_2_code 14 = .ok (.iastore, 1) := by decide +kernel
theorem zd_Ref_anew_15 : decode prog_13_method_2_code 15 = .ok (.aload_n 0, 1) := by decide +kernel
theorem zd_Ref_anew_16 : decode prog_13_method_2_code 16 = .ok (.getfield 32, 3) := by decide +kernel
theorem zd_Ref_anew_19 : decode prog_13_method_2_code 19 = .ok (.iload_n 1, 1) := by decide +kernel
theorem zd_Ref_anew_20 : decode prog_13_method_2_code 20 = .ok (.iconst 0, 1) := by decide +kernel
theorem zd_Ref_anew_21 : decode prog_13_method_2_code 21 = .ok (.iastore, 1) := by decide +kernel
theorem zd_Ref_anew_22 : decode prog_13_method_2_code 22 = .ok (.iinc 1 1, 3) := by decide +kernel
theorem zd_Ref_anew_25 : decode prog_13_method_2_code 25 = .ok (.goto (-23), 3) := by decide +kernel
theorem zd_Ref_anew_28 : decode prog_13_method_2_code 28 = .ok (.aload_n 0, 1) := by decide +kernel
theorem zd_Ref_anew_29 : decode prog_13_method_2_code 29 = .ok (.getfield 29, 3) := by decide +kernel
theorem zd_Ref_anew_32 : decode prog_13_method_2_code 32 = .ok (.iconst 1, 1) := by decide +kernel
theorem zd_Ref_anew_33 : decode prog_13_method_2_code 33 = .ok (.iconst 1, 1) := by decide +kernel
theorem zd_Ref_anew_34 : decode prog_13_method_2_code 34 = .ok (.iastore, 1) := by decide +kernel
theorem zd_Ref_anew_35 : decode prog_13_method_2_code 35 = .ok (.iconst 0, 1) := by decide +kernel
theorem zd_Ref_anew_36 : decode prog_13_method_2_code 36 = .ok (.istore_n 1, 1) := by decide +kernel
theorem zd_Ref_anew_37 : decode prog_13_method_2_code 37 = .ok (.iload_n 1, 1) := by decide +kernel
theorem zd_Ref_anew_38 : decode prog_13_method_2_code 38 = .ok (.aload_n 0, 1) := by decide +kernel
theorem zd_Ref_anew_39 : decode prog_13_method_2_code 39 = .ok (.getfield 76, 3) := by decide +kernel
theorem zd_Ref_anew_42 : decode prog_13_method_2_code 42 = .ok (.if_icmp .ge 43, 3) := by decide +kernel
theorem zd_Ref_anew_45 : decode prog_13_method_2_code 45 = .ok (.aload_n 0, 1) := by decide +kernel
theorem zd_Ref_anew_46 : decode prog_13_method_2_code 46 = .ok (.getfield 32, 3) := by decide +kernel
theorem zd_Ref_anew_49 : decode prog_13_method_2_code 49 = .ok (.iconst 1, 1) := by decide +kernel
theorem zd_Ref_anew_50 : decode prog_13_method_2_code 50 = .ok (.aload_n 0, 1) := by decide +kernel
theorem zd_Ref_anew_51 : decode prog_13_method_2_code 51 = .ok (.getfield 16, 3) := by decide +kernel
theorem zd_Ref_anew_54 : decode prog_13_method_2_code 54 = .ok (.iload_n 1, 1) := by decide +kernel
theorem zd_Ref_anew_55 : decode prog_13_method_2_code 55 = .ok (.iaload, 1) := by decide +kernel
theorem zd_Ref_anew_56 : decode prog_13_method_2_code 56 = .ok (.ifCond .le 16, 3) := by decide +kernel
theorem zd_Ref_anew_59 : decode prog_13_method_2_code 59 = .ok (.aload_n 0, 1) := by decide +kernel
theorem zd_Ref_anew_60 : decode prog_13_method_2_code 60 = .ok (.getfield 32, 3) := by decide +kernel
theorem zd_Ref_anew_63 : decode prog_13_method_2_code 63 = .ok (.iconst 1, 1) := by decide +kernel
theorem zd_Ref_anew_64 : decode prog_13_method_2_code 64 = .ok (.iaload, 1) := by decide +kernel
theorem zd_Ref_anew_65 : decode prog_13_method_2_code 65 = .ok (.iconst 1, 1) := by decide +kernel
theorem zd_Ref_anew_66 : decode prog_13_method_2_code 66 = .ok (.iload_n 1, 1) := by decide +kernel
theorem zd_Ref_anew_67 : decode prog_13_method_2_code 67 = .ok (.ishl, 1) := by decide +kernel
theorem zd_Ref_anew_68 : decode prog_13_method_2_code 68 = .ok (.ior, 1) := by decide +kernel
theorem zd_Ref_anew_69 : decode prog_13_method_2_code 69 = .ok (.goto 9, 3) := by decide +kernel
theorem zd_Ref_anew_72 : decode prog_13_method_2_code 72 = .ok (.aload_n 0, 1) := by decide +kernel
theorem zd_Ref_anew_73 : decode prog_13_method_2_code 73 = .ok (.getfield 32, 3) := by decide +kernel
theorem zd_Ref_anew_76 : decode prog_13_method_2_code 76 = .ok (.iconst 1, 1) := by decide +kernel
theorem zd_Ref_anew_77 : decode prog_13_method_2_code 77 = .ok (.iaload, 1) := by decide +kernel
theorem zd_Ref_anew_78 : decode prog_13_method_2_code 78 = .ok (.iastore, 1) := by decide +kernel
theorem zd_Ref_anew_79 : decode prog_13_method_2_code 79 = .ok (.iinc 1 1, 3) := by decide +kernel
theorem zd_Ref_anew_82 : decode prog_13_method_2_code 82 = .ok (.goto (-45), 3) := by decide +kernel
theorem zd_Ref_anew_85 : decode prog_13_method_2_code 85 = .ok (.aload_n 0, 1) := by decide +kernel
theorem zd_Ref_anew_86 : decode prog_13_method_2_code 86 = .ok (.iconst 0, 1) := by decide +kernel
theorem zd_Ref_anew_87 : decode prog_13_method_2_code 87 = .ok (.putfield 79, 3) := by decide +kernel
theorem zd_Ref_anew_90 : decode prog_13_method_2_code 90 = .ok (.return_, 1) := by decide +kernel
def zm_Ref_addRow : zg_M := (⟨"SurrogateTreeModel", "addRow", "(IIII)I"⟩, prog_13_method_3_code, 6, (some .int))
theorem zd_Ref_addRow_0 : decode prog_13_method_3_code 0 = .ok (.iload 4, 2) := by decide +kernel
theorem zd_Ref_addRow_2 : decode prog_13_method_3_code 2 = .ok (.ifCond .lt 18, 3) := by decide +kernel
theorem zd_Ref_addRow_5 : decode prog_13_method_3_code 5 = .ok (.iload 4, 2) := by decide +kernel
theorem zd_Ref_addRow_7 : decode prog_13_method_3_code 7 = .ok (.iconst 3, 1) := by decide +kernel
theorem zd_Ref_addRow_8 : decode prog_13_method_3_code 8 = .ok (.if_icmp .gt 12, 3) := by decide +kernel
theorem zd_Ref_addRow_11 : decode prog_13_method_3_code 11 = .ok (.aload_n 0, 1) := by decide +kernel
theorem zd_Ref_addRow_12 : decode prog_13_method_3_code 12 = .ok (.getfield 76, 3) := by decide +kernel
theorem zd_Ref_addRow_15 : decode prog_13_method_3_code 15 = .ok (.bipush 16, 2) := by decide +kernel
theorem zd_Ref_addRow_17 : decode prog_13_method_3_code 17 = .ok (.if_icmp .lt 5, 3) := by decide +kernel
theorem zd_Ref_addRow_20 : decode prog_13_method_3_code 20 = .ok (.iconst (-1), 1) := by decide +kernel
theorem zd_Ref_addRow_21 : decode prog_13_method_3_code 21 = .ok (.ireturn, 1) := by decide +kernel
theorem zd_Ref_addRow_22 : decode prog_13_method_3_code 22 = .ok (.aload_n 0, 1) := by decide +kernel
theorem zd_Ref_addRow_23 : decode prog_13_method_3_code 23 = .ok (.getfield 7, 3) := by decide +kernel
theorem zd_Ref_addRow_26 : decode prog_13_method_3_code 26 = .ok (.iconst 3, 1) := by decide +kernel
theorem zd_Ref_addRow_27 : decode prog_13_method_3_code 27 = .ok (.aload_n 0, 1) := by decide +kernel
theorem zd_Ref_addRow_28 : decode prog_13_method_3_code 28 = .ok (.getfield 76, 3) := by decide +kernel
theorem zd_Ref_addRow_31 : decode prog_13_method_3_code 31 = .ok (.imul, 1) := by decide +kernel
theorem zd_Ref_addRow_32 : decode prog_13_method_3_code 32 = .ok (.iload_n 1, 1) := by decide +kernel
theorem zd_Ref_addRow_33 : decode prog_13_method_3_code 33 = .ok (.iastore, 1) := by decide +kernel
theorem zd_Ref_addRow_34 : decode prog_13_method_3_code 34 = .ok (.aload_n 0, 1) := by decide +kernel
theorem zd_Ref_addRow_35 : decode prog_13_method_3_code 35 = .ok (.getfield 7, 3) := by decide +kernel
theorem zd_Ref_addRow_38 : decode prog_13_method_3_code 38 = .ok (.iconst 3, 1) := by decide +kernel
theorem zd_Ref_addRow_39 : decode prog_13_method_3_code 39 = .ok (.aload_n 0, 1) := by decide +kernel
theorem zd_Ref_addRow_40 : decode prog_13_method_3_code 40 = .ok (.getfield 76, 3) := by decide +kernel
theorem zd_Ref_addRow_43 : decode prog_13_method_3_code 43 = .ok (.imul, 1) := by decide +kernel
theorem zd_Ref_addRow_44 : decode prog_13_method_3_code 44 = .ok (.iconst 1, 1) := by decide +kernel
theorem zd_Ref_addRow_45 : decode prog_13_method_3_code 45 = .ok (.iadd, 1) := by decide +kernel
theorem zd_Ref_addRow_46 : decode prog_13_method_3_code 46 = .ok (.iload_n 2, 1) := by decide +kernel
theorem zd_Ref_addRow_47 : decode prog_13_method_3_code 47 = .ok (.iastore, 1) := by decide +kernel
theorem zd_Ref_addRow_48 : decode prog_13_method_3_code 48 = .ok (.aload_n 0, 1) := by decide +kernel
theorem zd_Ref_addRow_49 : decode prog_13_method_3_code 49 = .ok (.getfield 7, 3) := by decide +kernel
theorem zd_Ref_addRow_52 : decode prog_13_method_3_code 52 = .ok (.iconst 3, 1) := by decide +kernel
theorem zd_Ref_addRow_53 : decode prog_13_method_3_code 53 = .ok (.aload_n 0, 1) := by decide +kernel
theorem zd_Ref_addRow_54 : decode prog_13_method_3_code 54 = .ok (.getfield 76, 3) := by decide +kernel
theorem zd_Ref_addRow_57 : decode prog_13_method_3_code 57 = .ok (.imul, 1) := by decide +kernel
theorem zd_Ref_addRow_58 : decode prog_13_method_3_code 58 = .ok (.iconst 2, 1) := by decide +kernel
theorem zd_Ref_addRow_59 : decode prog_13_method_3_code 59 = .ok (.iadd, 1) := by decide +kernel
theorem zd_Ref_addRow_60 : decode prog_13_method_3_code 60 = .ok (.iload_n 3, 1) := by decide +kernel
theorem zd_Ref_addRow_61 : decode prog_13_method_3_code 61 = .ok (.iastore, 1) := by decide +kernel
theorem zd_Ref_addRow_62 : decode prog_13_method_3_code 62 = .ok (.aload_n 0, 1) := by decide +kernel
theorem zd_Ref_addRow_63 : decode prog_13_method_3_code 63 = .ok (.getfield 13, 3) := by decide +kernel
theorem zd_Ref_addRow_66 : decode prog_13_method_3_code 66 = .ok (.aload_n 0, 1) := by decide +kernel
theorem zd_Ref_addRow_67 : decode prog_13_method_3_code 67 = .ok (.getfield 76, 3) := by decide +kernel
theorem zd_Ref_addRow_70 : decode prog_13_method_3_code 70 = .ok (.iload 4, 2) := by decide +kernel
theorem zd_Ref_addRow_72 : decode prog_13_method_3_code 72 = .ok (.iastore, 1) := by decide +kernel
theorem zd_Ref_addRow_73 : decode prog_13_method_3_code 73 = .ok (.aload_n 0, 1) := by decide +kernel
theorem zd_Ref_addRow_74 : decode prog_13_method_3_code 74 = .ok (.dup, 1) := by decide +kernel
theorem zd_Ref_addRow_75 : decode prog_13_method_3_code 75 = .ok (.getfield 76, 3) := by decide +kernel
theorem zd_Ref_addRow_78 : decode prog_13_method_3_code 78 = .ok (.iconst 1, 1) := by decide +kernel
theorem zd_Ref_addRow_79 : decode prog_13_method_3_code 79 = .ok (.iadd, 1) := by decide +kernel
theorem zd_Ref_addRow_80 : decode prog_13_method_3_code 80 = .ok (.putfield 76, 3) := by decide +kernel
theorem zd_Ref_addRow_83 : decode prog_13_method_3_code 83 = .ok (.iconst 0, 1) := by decide +kernel
theorem zd_Ref_addRow_84 : decode prog_13_method_3_code 84 = .ok (.istore 5, 2) := by decide +kernel
theorem zd_Ref_addRow_86 : decode prog_13_method_3_code 86 = .ok (.iload 5, 2) := by decide +kernel
theorem zd_Ref_addRow_88 : decode prog_13_method_3_code 88 = .ok (.bipush 64, 2) := by decide +kernel
theorem zd_Ref_addRow_90 : decode prog_13_method_3_code 90 = .ok (.if_icmp .ge 17, 3) := by decide +kernel
theorem zd_Ref_addRow_93 : decode prog_13_method_3_code 93 = .ok (.aload_n 0, 1) := by decide +kernel
theorem zd_Ref_addRow_94 : decode prog_13_method_3_code 94 = .ok (.getfield 19, 3) := by decide +kernel
theorem zd_Ref_addRow_97 : decode prog_13_method_3_code 97 = .ok (.iload 5, 2) := by decide +kernel
theorem zd_Ref_addRow_99 : decode prog_13_method_3_code 99 = .ok (.iconst 0, 1) := by decide +kernel
theorem zd_Ref_addRow_100 : decode prog_13_method_3_code 100 = .ok (.iastore, 1) := by decide +kernel
theorem zd_Ref_addRow_101 : decode prog_13_method_3_code 101 = .ok (.iinc 5 1, 3) := by decide +kernel
theorem zd_Ref_addRow_104 : decode prog_13_method_3_code 104 = .ok (.goto (-18), 3) := by decide +kernel
theorem zd_Ref_addRow_107 : decode prog_13_method_3_code 107 = .ok (.aload_n 0, 1) := by decide +kernel
theorem zd_Ref_addRow_108 : decode prog_13_method_3_code 108 = .ok (.invokevirtual 83, 3) := by decide +kernel
theorem zd_Ref_addRow_111 : decode prog_13_method_3_code 111 = .ok (.aload_n 0, 1) := by decide +kernel
theorem zd_Ref_addRow_112 : decode prog_13_method_3_code 112 = .ok (.getfield 76, 3) := by decide +kernel
theorem zd_Ref_addRow_115 : decode prog_13_method_3_code 115 = .ok (.iconst 1, 1) := by decide +kernel
theorem zd_Ref_addRow_116 : decode prog_13_method_3_code 116 = .ok (.isub, 1) := by decide +kernel
theorem zd_Ref_addRow_117 : decode prog_13_method_3_code 117 = .ok (.ireturn, 1) := by decide +kernel
def zm_Ref_even : zg_M := (⟨"SurrogateTreeModel", "even", "()V"⟩, prog_13_method_6_code, 2, none)
theorem zd_Ref_even_0 : decode prog_13_method_6_code 0 = .ok (.iconst 0, 1) := by decide +kernel
theorem zd_Ref_even_1 : decode prog_13_method_6_code 1 = .ok (.istore_n 1, 1) := by decide +kernel
theorem zd_Ref_even_2 : decode prog_13_method_6_code 2 = .ok (.iload_n 1, 1) := by decide +kernel
theorem zd_Ref_even_3 : decode prog_13_method_6_code 3 = .ok (.aload_n 0, 1) := by decide +kernel
theorem zd_Ref_even_4 : decode prog_13_method_6_code 4 = .ok (.getfield 76, 3) := by decide +kernel
theorem zd_Ref_even_7 : decode prog_13_method_6_code 7 = .ok (.if_icmp .ge 16, 3) := by decide +kernel
theorem zd_Ref_even_10 : decode prog_13_method_6_code 10 = .ok (.aload_n 0, 1) := by decide +kernel
theorem zd_Ref_even_11 : decode prog_13_method_6_code 11 = .ok (.getfield 16, 3) := by decide +kernel
theorem zd_Ref_even_14 : decode prog_13_method_6_code 14 = .ok (.iload_n 1, 1) := by decide +kernel
theorem zd_Ref_even_15 : decode prog_13_method_6_code 15 = .ok (.iconst 1, 1) := by decide +kernel
theorem zd_Ref_even_16 : decode prog_13_method_6_code 16 = .ok (.iastore, 1) := by decide +kernel
theorem zd_Ref_even_17 : decode prog_13_method_6_code 17 = .ok (.iinc 1 1, 3) := by decide +kernel
theorem zd_Ref_even_20 : decode prog_13_method_6_code 20 = .ok (.goto (-18), 3) := by decide +kernel
theorem zd_Ref_even_23 : decode prog_13_method_6_code 23 = .ok (.aload_n 0, 1) := by decide +kernel
theorem zd_Ref_even_24 : decode prog_13_method_6_code 24 = .ok (.invokevirtual 73, 3) := by decide +kernel
theorem zd_Ref_even_27 : decode prog_13_method_6_code 27 = .ok (.return_, 1) := by decide +kernel
def zm_Ref_begin : zg_M := (⟨"SurrogateTreeModel", "begin", "(III)Z"⟩, prog_13_method_4_code, 4, (some .boolean))
theorem zd_Ref_begin_0 : decode prog_13_method_4_code 0 = .ok (.iload_n 1, 1) := by decide +kernel
theorem zd_Ref_begin_1 : decode prog_13_method_4_code 1 = .ok (.ifCond .lt 28, 3) := by decide +kernel
theorem zd_Ref_begin_4 : decode prog_13_method_4_code 4 = .ok (.iload_n 1, 1) := by decide +kernel
theorem zd_Ref_begin_5 : decode prog_13_method_4_code 5 = .ok (.iconst 2, 1) := by decide +kernel
theorem zd_Ref_begin_6 : decode prog_13_method_4_code 6 = .ok (.if_icmp .gt 23, 3) := by decide +kernel
theorem zd_Ref_begin_9 : decode prog_13_method_4_code 9 = .ok (.iload_n 2, 1) := by decide +kernel
theorem zd_Ref_begin_10 : decode prog_13_method_4_code 10 = .ok (.ifCond .lt 19, 3) := by decide +kernel
theorem zd_Ref_begin_13 : decode prog_13_method_4_code 13 = .ok (.iload_n 2, 1) := by decide +kernel
theorem zd_Ref_begin_14 : decode prog_13_method_4_code 14 = .ok (.iconst 4, 1) := by decide +kernel
theorem zd_Ref_begin_15 : decode prog_13_method_4_code 15 = .ok (.if_icmp .gt 14, 3) := by decide +kernel
theorem zd_Ref_begin_18 : decode prog_13_method_4_code 18 = .ok (.iload_n 3, 1) := by decide +kernel
theorem zd_Ref_begin_19 : decode prog_13_method_4_code 19 = .ok (.iconst 1, 1) := by decide +kernel
theorem zd_Ref_begin_20 : decode prog_13_method_4_code 20 = .ok (.if_icmp .lt 9, 3) := by decide +kernel
theorem zd_Ref_begin_23 : decode prog_13_method_4_code 23 = .ok (.iload_n 3, 1) := by decide +kernel
theorem zd_Ref_begin_24 : decode prog_13_method_4_code 24 = .ok (.bipush 8, 2) := by decide +kernel
theorem zd_Ref_begin_26 : decode prog_13_method_4_code 26 = .ok (.if_icmp .le 5, 3) := by decide +kernel
theorem zd_Ref_begin_29 : decode prog_13_method_4_code 29 = .ok (.iconst 0, 1) := by decide +kernel
theorem zd_Ref_begin_30 : decode prog_13_method_4_code 30 = .ok (.ireturn, 1) := by decide +kernel
theorem zd_Ref_begin_31 : decode prog_13_method_4_code 31 = .ok (.aload_n 0, 1) := by decide +kernel
theorem zd_Ref_begin_32 : decode prog_13_method_4_code 32 = .ok (.iload_n 1, 1) := by decide +kernel
theorem zd_Ref_begin_33 : decode prog_13_method_4_code 33 = .ok (.putfield 86, 3) := by decide +kernel
theorem zd_Ref_begin_36 : decode prog_13_method_4_code 36 = .ok (.aload_n 0, 1) := by decide +kernel
theorem zd_Ref_begin_37 : decode prog_13_method_4_code 37 = .ok (.iload_n 2, 1) := by decide +kernel
theorem zd_Ref_begin_38 : decode prog_13_method_4_code 38 = .ok (.putfield 22, 3) := by decide +kernel
theorem zd_Ref_begin_41 : decode prog_13_method_4_code 41 = .ok (.aload_n 0, 1) := by decide +kernel
theorem zd_Ref_begin_42 : decode prog_13_method_4_code 42 = .ok (.iload_n 3, 1) := by decide +kernel
theorem zd_Ref_begin_43 : decode prog_13_method_4_code 43 = .ok (.putfield 26, 3) := by decide +kernel
theorem zd_Ref_begin_46 : decode prog_13_method_4_code 46 = .ok (.aload_n 0, 1) := by decide +kernel
theorem zd_Ref_begin_47 : decode prog_13_method_4_code 47 = .ok (.invokevirtual 73, 3) := by decide +kernel
theorem zd_Ref_begin_50 : decode prog_13_method_4_code 50 = .ok (.iconst 1, 1) := by decide +kernel
theorem zd_Ref_begin_51 : decode prog_13_method_4_code 51 = .ok (.ireturn, 1) := by decide +kernel
def zm_Ref_bag : zg_M := (⟨"SurrogateTreeModel", "bag", "(J)I"⟩, prog_13_method_5_code, 8, (some .int))
theorem zd_Ref_bag_0 : decode prog_13_method_5_code 0 = .ok (.aload_n 0, 1) := by decide +kernel
theorem zd_Ref_bag_1 : decode prog_13_method_5_code 1 = .ok (.getfield 76, 3) := by decide +kernel
theorem zd_Ref_bag_4 : decode prog_13_method_5_code 4 = .ok (.ifCond .ne 5, 3) := by decide +kernel
theorem zd_Ref_bag_7 : decode prog_13_method_5_code 7 = .ok (.iconst (-1), 1) := by decide +kernel
theorem zd_Ref_bag_8 : decode prog_13_method_5_code 8 = .ok (.ireturn, 1) := by decide +kernel
theorem zd_Ref_bag_9 : decode prog_13_method_5_code 9 = .ok (.iconst 0, 1) := by decide +kernel
theorem zd_Ref_bag_10 : decode prog_13_method_5_code 10 = .ok (.istore_n 3, 1) := by decide +kernel
theorem zd_Ref_bag_11 : decode prog_13_method_5_code 11 = .ok (.iload_n 3, 1) := by decide +kernel
theorem zd_Ref_bag_12 : decode prog_13_method_5_code 12 = .ok (.bipush 16, 2) := by decide +kernel
theorem zd_Ref_bag_14 : decode prog_13_method_5_code 14 = .ok (.if_icmp .ge 16, 3) := by decide +kernel
theorem zd_Ref_bag_17 : decode prog_13_method_5_code 17 = .ok (.aload_n 0, 1) := by decide +kernel
theorem zd_Ref_bag_18 : decode prog_13_method_5_code 18 = .ok (.getfield 16, 3) := by decide +kernel
theorem zd_Ref_bag_21 : decode prog_13_method_5_code 21 = .ok (.iload_n 3, 1) := by decide +kernel
theorem zd_Ref_bag_22 : decode prog_13_method_5_code 22 = .ok (.iconst 0, 1) := by decide +kernel
theorem zd_Ref_bag_23 : decode prog_13_method_5_code 23 = .ok (.iastore, 1) := by decide +kernel
theorem zd_Ref_bag_24 : decode prog_13_method_5_code 24 = .ok (.iinc 3 1, 3) := by decide +kernel
theorem zd_Ref_bag_27 : decode prog_13_method_5_code 27 = .ok (.goto (-16), 3) := by decide +kernel
theorem zd_Ref_bag_30 : decode prog_13_method_5_code 30 = .ok (.lload_n 1, 1) := by decide +kernel
theorem zd_Ref_bag_31 : decode prog_13_method_5_code 31 = .ok (.lstore_n 3, 1) := by decide +kernel
theorem zd_Ref_bag_32 : decode prog_13_method_5_code 32 = .ok (.iconst 0, 1) := by decide +kernel
theorem zd_Ref_bag_33 : decode prog_13_method_5_code 33 = .ok (.istore 5, 2) := by decide +kernel
theorem zd_Ref_bag_35 : decode prog_13_method_5_code 35 = .ok (.iload 5, 2) := by decide +kernel
theorem zd_Ref_bag_37 : decode prog_13_method_5_code 37 = .ok (.aload_n 0, 1) := by decide +kernel
theorem zd_Ref_bag_38 : decode prog_13_method_5_code 38 = .ok (.getfield 76, 3) := by decide +kernel
theorem zd_Ref_bag_41 : decode prog_13_method_5_code 41 = .ok (.if_icmp .ge 77, 3) := by decide +kernel
theorem zd_Ref_bag_44 : decode prog_13_method_5_code 44 = .ok (.bipush 32, 2) := by decide +kernel
theorem zd_Ref_bag_46 : decode prog_13_method_5_code 46 = .ok (.istore 6, 2) := by decide +kernel
theorem zd_Ref_bag_48 : decode prog_13_method_5_code 48 = .ok (.iconst 0, 1) := by decide +kernel
theorem zd_Ref_bag_49 : decode prog_13_method_5_code 49 = .ok (.istore 7, 2) := by decide +kernel
theorem zd_Ref_bag_51 : decode prog_13_method_5_code 51 = .ok (.iload 7, 2) := by decide +kernel
theorem zd_Ref_bag_53 : decode prog_13_method_5_code 53 = .ok (.bipush 8, 2) := by decide +kernel
theorem zd_Ref_bag_55 : decode prog_13_method_5_code 55 = .ok (.if_icmp .ge 41, 3) := by decide +kernel
theorem zd_Ref_bag_58 : decode prog_13_method_5_code 58 = .ok (.iload 6, 2) := by decide +kernel
theorem zd_Ref_bag_60 : decode prog_13_method_5_code 60 = .ok (.bipush 32, 2) := by decide +kernel
theorem zd_Ref_bag_62 : decode prog_13_method_5_code 62 = .ok (.bipush 32, 2) := by decide +kernel
theorem zd_Ref_bag_64 : decode prog_13_method_5_code 64 = .ok (.aload_n 0, 1) := by decide +kernel
theorem zd_Ref_bag_65 : decode prog_13_method_5_code 65 = .ok (.getfield 76, 3) := by decide +kernel
theorem zd_Ref_bag_68 : decode prog_13_method_5_code 68 = .ok (.irem, 1) := by decide +kernel
theorem zd_Ref_bag_69 : decode prog_13_method_5_code 69 = .ok (.isub, 1) := by decide +kernel
theorem zd_Ref_bag_70 : decode prog_13_method_5_code 70 = .ok (.if_icmp .lt 26, 3) := by decide +kernel
theorem zd_Ref_bag_73 : decode prog_13_method_5_code 73 = .ok (.lload_n 3, 1) := by decide +kernel
theorem zd_Ref_bag_74 : decode prog_13_method_5_code 74 = .ok (.ldc2_w 89, 3) := by decide +kernel
theorem zd_Ref_bag_77 : decode prog_13_method_5_code 77 = .ok (.lmul, 1) := by decide +kernel
theorem zd_Ref_bag_78 : decode prog_13_method_5_code 78 = .ok (.ldc2_w 91, 3) := by decide +kernel
theorem zd_Ref_bag_81 : decode prog_13_method_5_code 81 = .ok (.ladd, 1) := by decide +kernel
theorem zd_Ref_bag_82 : decode prog_13_method_5_code 82 = .ok (.lstore_n 3, 1) := by decide +kernel
theorem zd_Ref_bag_83 : decode prog_13_method_5_code 83 = .ok (.lload_n 3, 1) := by decide +kernel
theorem zd_Ref_bag_84 : decode prog_13_method_5_code 84 = .ok (.bipush 59, 2) := by decide +kernel
theorem zd_Ref_bag_86 : decode prog_13_method_5_code 86 = .ok (.lushr, 1) := by decide +kernel
theorem zd_Ref_bag_87 : decode prog_13_method_5_code 87 = .ok (.l2i, 1) := by decide +kernel
theorem zd_Ref_bag_88 : decode prog_13_method_5_code 88 = .ok (.istore 6, 2) := by decide +kernel
theorem zd_Ref_bag_90 : decode prog_13_method_5_code 90 = .ok (.iinc 7 1, 3) := by decide +kernel
theorem zd_Ref_bag_93 : decode prog_13_method_5_code 93 = .ok (.goto (-42), 3) := by decide +kernel
theorem zd_Ref_bag_96 : decode prog_13_method_5_code 96 = .ok (.aload_n 0, 1) := by decide +kernel
theorem zd_Ref_bag_97 : decode prog_13_method_5_code 97 = .ok (.getfield 16, 3) := by decide +kernel
theorem zd_Ref_bag_100 : decode prog_13_method_5_code 100 = .ok (.iload 6, 2) := by decide +kernel
theorem zd_Ref_bag_102 : decode prog_13_method_5_code 102 = .ok (.aload_n 0, 1) := by decide +kernel
theorem zd_Ref_bag_103 : decode prog_13_method_5_code 103 = .ok (.getfield 76, 3) := by decide +kernel
theorem zd_Ref_bag_106 : decode prog_13_method_5_code 106 = .ok (.irem, 1) := by decide +kernel
theorem zd_Ref_bag_107 : decode prog_13_method_5_code 107 = .ok (.dup2, 1) := by decide +kernel
theorem zd_Ref_bag_108 : decode prog_13_method_5_code 108 = .ok (.iaload, 1) := by decide +kernel
theorem zd_Ref_bag_109 : decode prog_13_method_5_code 109 = .ok (.iconst 1, 1) := by decide +kernel
theorem zd_Ref_bag_110 : decode prog_13_method_5_code 110 = .ok (.iadd, 1) := by decide +kernel
theorem zd_Ref_bag_111 : decode prog_13_method_5_code 111 = .ok (.iastore, 1) := by decide +kernel
theorem zd_Ref_bag_112 : decode prog_13_method_5_code 112 = .ok (.iinc 5 1, 3) := by decide +kernel
theorem zd_Ref_bag_115 : decode prog_13_method_5_code 115 = .ok (.goto (-80), 3) := by decide +kernel
theorem zd_Ref_bag_118 : decode prog_13_method_5_code 118 = .ok (.aload_n 0, 1) := by decide +kernel
theorem zd_Ref_bag_119 : decode prog_13_method_5_code 119 = .ok (.invokevirtual 73, 3) := by decide +kernel
theorem zd_Ref_bag_122 : decode prog_13_method_5_code 122 = .ok (.iconst 0, 1) := by decide +kernel
theorem zd_Ref_bag_123 : decode prog_13_method_5_code 123 = .ok (.istore 5, 2) := by decide +kernel
theorem zd_Ref_bag_125 : decode prog_13_method_5_code 125 = .ok (.iconst 0, 1) := by decide +kernel
theorem zd_Ref_bag_126 : decode prog_13_method_5_code 126 = .ok (.istore 6, 2) := by decide +kernel
theorem zd_Ref_bag_128 : decode prog_13_method_5_code 128 = .ok (.iload 6, 2) := by decide +kernel
theorem zd_Ref_bag_130 : decode prog_13_method_5_code 130 = .ok (.aload_n 0, 1) := by decide +kernel
theorem zd_Ref_bag_131 : decode prog_13_method_5_code 131 = .ok (.getfield 76, 3) := by decide +kernel
theorem zd_Ref_bag_134 : decode prog_13_method_5_code 134 = .ok (.if_icmp .ge 30, 3) := by decide +kernel
theorem zd_Ref_bag_137 : decode prog_13_method_5_code 137 = .ok (.aload_n 0, 1) := by decide +kernel
theorem zd_Ref_bag_138 : decode prog_13_method_5_code 138 = .ok (.getfield 16, 3) := by decide +kernel
theorem zd_Ref_bag_141 : decode prog_13_method_5_code 141 = .ok (.iload 6, 2) := by decide +kernel
theorem zd_Ref_bag_143 : decode prog_13_method_5_code 143 = .ok (.iaload, 1) := by decide +kernel
theorem zd_Ref_bag_144 : decode prog_13_method_5_code 144 = .ok (.ifCond .ne 10, 3) := by decide +kernel
theorem zd_Ref_bag_147 : decode prog_13_method_5_code 147 = .ok (.iload 5, 2) := by decide +kernel
theorem zd_Ref_bag_149 : decode prog_13_method_5_code 149 = .ok (.iconst 1, 1) := by decide +kernel
theorem zd_Ref_bag_150 : decode prog_13_method_5_code 150 = .ok (.iadd, 1) := by decide +kernel
theorem zd_Ref_bag_151 : decode prog_13_method_5_code 151 = .ok (.goto 5, 3) := by decide +kernel
theorem zd_Ref_bag_154 : decode prog_13_method_5_code 154 = .ok (.iload 5, 2) := by decide +kernel
theorem zd_Ref_bag_156 : decode prog_13_method_5_code 156 = .ok (.istore 5, 2) := by decide +kernel
theorem zd_Ref_bag_158 : decode prog_13_method_5_code 158 = .ok (.iinc 6 1, 3) := by decide +kernel
theorem zd_Ref_bag_161 : decode prog_13_method_5_code 161 = .ok (.goto (-33), 3) := by decide +kernel
theorem zd_Ref_bag_164 : decode prog_13_method_5_code 164 = .ok (.iload 5, 2) := by decide +kernel
theorem zd_Ref_bag_166 : decode prog_13_method_5_code 166 = .ok (.ireturn, 1) := by decide +kernel
def zm_Ref_weight : zg_M := (⟨"SurrogateTreeModel", "weight", "(I)I"⟩, prog_13_method_7_code, 2, (some .int))
theorem zd_Ref_weight_0 : decode prog_13_method_7_code 0 = .ok (.iload_n 1, 1) := by decide +kernel
theorem zd_Ref_weight_1 : decode prog_13_method_7_code 1 = .ok (.ifCond .lt 11, 3) := by decide +kernel
theorem zd_Ref_weight_4 : decode prog_13_method_7_code 4 = .ok (.iload_n 1, 1) := by decide +kernel
theorem zd_Ref_weight_5 : decode prog_13_method_7_code 5 = .ok (.aload_n 0, 1) := by decide +kernel
theorem zd_Ref_weight_6 : decode prog_13_method_7_code 6 = .ok (.getfield 76, 3) := by decide +kernel
theorem zd_Ref_weight_9 : decode prog_13_method_7_code 9 = .ok (.if_icmp .lt 7, 3) := by decide +kernel
theorem zd_Ref_weight_12 : decode prog_13_method_7_code 12 = .ok (.iconst (-1), 1) := by decide +kernel
theorem zd_Ref_weight_13 : decode prog_13_method_7_code 13 = .ok (.goto 9, 3) := by decide +kernel
theorem zd_Ref_weight_16 : decode prog_13_method_7_code 16 = .ok (.aload_n 0, 1) := by decide +kernel
theorem zd_Ref_weight_17 : decode prog_13_method_7_code 17 = .ok (.getfield 16, 3) := by decide +kernel
theorem zd_Ref_weight_20 : decode prog_13_method_7_code 20 = .ok (.iload_n 1, 1) := by decide +kernel
theorem zd_Ref_weight_21 : decode prog_13_method_7_code 21 = .ok (.iaload, 1) := by decide +kernel
theorem zd_Ref_weight_22 : decode prog_13_method_7_code 22 = .ok (.ireturn, 1) := by decide +kernel
def zm_Ref_grow : zg_M := (⟨"SurrogateTreeModel", "grow", "(I)I"⟩, prog_13_method_26_code, 3, (some .int))
theorem zd_Ref_grow_0 : decode prog_13_method_26_code 0 = .ok (.iload_n 1, 1) := by decide +kernel
theorem zd_Ref_grow_1 : decode prog_13_method_26_code 1 = .ok (.iconst 1, 1) := by decide +kernel
theorem zd_Ref_grow_2 : decode prog_13_method_26_code 2 = .ok (.if_icmp .lt 8, 3) := by decide +kernel
theorem zd_Ref_grow_5 : decode prog_13_method_26_code 5 = .ok (.iload_n 1, 1) := by decide +kernel
theorem zd_Ref_grow_6 : decode prog_13_method_26_code 6 = .ok (.iconst 3, 1) := by decide +kernel
theorem zd_Ref_grow_7 : decode prog_13_method_26_code 7 = .ok (.if_icmp .le 5, 3) := by decide +kernel
theorem zd_Ref_grow_10 : decode prog_13_method_26_code 10 = .ok (.iconst (-1), 1) := by decide +kernel
theorem zd_Ref_grow_11 : decode prog_13_method_26_code 11 = .ok (.ireturn, 1) := by decide +kernel
theorem zd_Ref_grow_12 : decode prog_13_method_26_code 12 = .ok (.iconst 0, 1) := by decide +kernel
theorem zd_Ref_grow_13 : decode prog_13_method_26_code 13 = .ok (.istore_n 2, 1) := by decide +kernel
theorem zd_Ref_grow_14 : decode prog_13_method_26_code 14 = .ok (.iload_n 2, 1) := by decide +kernel
theorem zd_Ref_grow_15 : decode prog_13_method_26_code 15 = .ok (.iload_n 1, 1) := by decide +kernel
theorem zd_Ref_grow_16 : decode prog_13_method_26_code 16 = .ok (.if_icmp .ge 24, 3) := by decide +kernel
theorem zd_Ref_grow_19 : decode prog_13_method_26_code 19 = .ok (.aload_n 0, 1) := by decide +kernel
theorem zd_Ref_grow_20 : decode prog_13_method_26_code 20 = .ok (.invokevirtual 173, 3) := by decide +kernel
theorem zd_Ref_grow_23 : decode prog_13_method_26_code 23 = .ok (.ifCond .le 17, 3) := by decide +kernel
theorem zd_Ref_grow_26 : decode prog_13_method_26_code 26 = .ok (.aload_n 0, 1) := by decide +kernel
theorem zd_Ref_grow_27 : decode prog_13_method_26_code 27 = .ok (.aload_n 0, 1) := by decide +kernel
theorem zd_Ref_grow_28 : decode prog_13_method_26_code 28 = .ok (.invokevirtual 173, 3) := by decide +kernel
theorem zd_Ref_grow_31 : decode prog_13_method_26_code 31 = .ok (.invokevirtual 177, 3) := by decide +kernel
theorem zd_Ref_grow_34 : decode prog_13_method_26_code 34 = .ok (.iinc 2 1, 3) := by decide +kernel
theorem zd_Ref_grow_37 : decode prog_13_method_26_code 37 = .ok (.goto (-23), 3) := by decide +kernel
theorem zd_Ref_grow_40 : decode prog_13_method_26_code 40 = .ok (.iload_n 2, 1) := by decide +kernel
theorem zd_Ref_grow_41 : decode prog_13_method_26_code 41 = .ok (.ireturn, 1) := by decide +kernel
def zm_Ref_waiting : zg_M := (⟨"SurrogateTreeModel", "waiting", "()I"⟩, prog_13_method_23_code, 3, (some .int))
theorem zd_Ref_waiting_0 : decode prog_13_method_23_code 0 = .ok (.iconst 0, 1) := by decide +kernel
theorem zd_Ref_waiting_1 : decode prog_13_method_23_code 1 = .ok (.istore_n 1, 1) := by decide +kernel
theorem zd_Ref_waiting_2 : decode prog_13_method_23_code 2 = .ok (.bipush 31, 2) := by decide +kernel
theorem zd_Ref_waiting_4 : decode prog_13_method_23_code 4 = .ok (.istore_n 2, 1) := by decide +kernel
theorem zd_Ref_waiting_5 : decode prog_13_method_23_code 5 = .ok (.iload_n 2, 1) := by decide +kernel
theorem zd_Ref_waiting_6 : decode prog_13_method_23_code 6 = .ok (.ifCond .le 25, 3) := by decide +kernel
theorem zd_Ref_waiting_9 : decode prog_13_method_23_code 9 = .ok (.aload_n 0, 1) := by decide +kernel
theorem zd_Ref_waiting_10 : decode prog_13_method_23_code 10 = .ok (.getfield 29, 3) := by decide +kernel
theorem zd_Ref_waiting_13 : decode prog_13_method_23_code 13 = .ok (.iload_n 2, 1) := by decide +kernel
theorem zd_Ref_waiting_14 : decode prog_13_method_23_code 14 = .ok (.iaload, 1) := by decide +kernel
theorem zd_Ref_waiting_15 : decode prog_13_method_23_code 15 = .ok (.iconst 1, 1) := by decide +kernel
theorem zd_Ref_waiting_16 : decode prog_13_method_23_code 16 = .ok (.if_icmp .ne 7, 3) := by decide +kernel
theorem zd_Ref_waiting_19 : decode prog_13_method_23_code 19 = .ok (.iload_n 2, 1) := by decide +kernel
theorem zd_Ref_waiting_20 : decode prog_13_method_23_code 20 = .ok (.goto 4, 3) := by decide +kernel
theorem zd_Ref_waiting_23 : decode prog_13_method_23_code 23 = .ok (.iload_n 1, 1) := by decide +kernel
theorem zd_Ref_waiting_24 : decode prog_13_method_23_code 24 = .ok (.istore_n 1, 1) := by decide +kernel
theorem zd_Ref_waiting_25 : decode prog_13_method_23_code 25 = .ok (.iinc 2 (-1), 3) := by decide +kernel
theorem zd_Ref_waiting_28 : decode prog_13_method_23_code 28 = .ok (.goto (-23), 3) := by decide +kernel
theorem zd_Ref_waiting_31 : decode prog_13_method_23_code 31 = .ok (.iload_n 1, 1) := by decide +kernel
theorem zd_Ref_waiting_32 : decode prog_13_method_23_code 32 = .ok (.ireturn, 1) := by decide +kernel
def zm_Ref_turn : zg_M := (⟨"SurrogateTreeModel", "turn", "(I)V"⟩, prog_13_method_25_code, 4, none)
theorem zd_Ref_turn_0 : decode prog_13_method_25_code 0 = .ok (.iload_n 1, 1) := by decide +kernel
theorem zd_Ref_turn_1 : decode prog_13_method_25_code 1 = .ok (.invokestatic 162, 3) := by decide +kernel
theorem zd_Ref_turn_4 : decode prog_13_method_25_code 4 = .ok (.aload_n 0, 1) := by decide +kernel
theorem zd_Ref_turn_5 : decode prog_13_method_25_code 5 = .ok (.getfield 22, 3) := by decide +kernel
theorem zd_Ref_turn_8 : decode prog_13_method_25_code 8 = .ok (.if_icmp .eq 11, 3) := by decide +kernel
theorem zd_Ref_turn_11 : decode prog_13_method_25_code 11 = .ok (.aload_n 0, 1) := by decide +kernel
theorem zd_Ref_turn_12 : decode prog_13_method_25_code 12 = .ok (.iload_n 1, 1) := by decide +kernel
theorem zd_Ref_turn_13 : decode prog_13_method_25_code 13 = .ok (.invokevirtual 165, 3) := by decide +kernel
theorem zd_Ref_turn_16 : decode prog_13_method_25_code 16 = .ok (.ifCond .ne 11, 3) := by decide +kernel
theorem zd_Ref_turn_19 : decode prog_13_method_25_code 19 = .ok (.aload_n 0, 1) := by decide +kernel
theorem zd_Ref_turn_20 : decode prog_13_method_25_code 20 = .ok (.getfield 29, 3) := by decide +kernel
theorem zd_Ref_turn_23 : decode prog_13_method_25_code 23 = .ok (.iload_n 1, 1) := by decide +kernel
theorem zd_Ref_turn_24 : decode prog_13_method_25_code 24 = .ok (.iconst 2, 1) := by decide +kernel
theorem zd_Ref_turn_25 : decode prog_13_method_25_code 25 = .ok (.iastore, 1) := by decide +kernel
theorem zd_Ref_turn_26 : decode prog_13_method_25_code 26 = .ok (.return_, 1) := by decide +kernel
theorem zd_Ref_turn_27 : decode prog_13_method_25_code 27 = .ok (.aload_n 0, 1) := by decide +kernel
theorem zd_Ref_turn_28 : decode prog_13_method_25_code 28 = .ok (.getfield 29, 3) := by decide +kernel
theorem zd_Ref_turn_31 : decode prog_13_method_25_code 31 = .ok (.iload_n 1, 1) := by decide +kernel
theorem zd_Ref_turn_32 : decode prog_13_method_25_code 32 = .ok (.iconst 3, 1) := by decide +kernel
theorem zd_Ref_turn_33 : decode prog_13_method_25_code 33 = .ok (.iastore, 1) := by decide +kernel
theorem zd_Ref_turn_34 : decode prog_13_method_25_code 34 = .ok (.aload_n 0, 1) := by decide +kernel
theorem zd_Ref_turn_35 : decode prog_13_method_25_code 35 = .ok (.getfield 35, 3) := by decide +kernel
theorem zd_Ref_turn_38 : decode prog_13_method_25_code 38 = .ok (.iload_n 1, 1) := by decide +kernel
theorem zd_Ref_turn_39 : decode prog_13_method_25_code 39 = .ok (.aload_n 0, 1) := by decide +kernel
theorem zd_Ref_turn_40 : decode prog_13_method_25_code 40 = .ok (.getfield 115, 3) := by decide +kernel
theorem zd_Ref_turn_43 : decode prog_13_method_25_code 43 = .ok (.iastore, 1) := by decide +kernel
theorem zd_Ref_turn_44 : decode prog_13_method_25_code 44 = .ok (.aload_n 0, 1) := by decide +kernel
theorem zd_Ref_turn_45 : decode prog_13_method_25_code 45 = .ok (.getfield 38, 3) := by decide +kernel
theorem zd_Ref_turn_48 : decode prog_13_method_25_code 48 = .ok (.iload_n 1, 1) := by decide +kernel
theorem zd_Ref_turn_49 : decode prog_13_method_25_code 49 = .ok (.aload_n 0, 1) := by decide +kernel
theorem zd_Ref_turn_50 : decode prog_13_method_25_code 50 = .ok (.getfield 136, 3) := by decide +kernel
theorem zd_Ref_turn_53 : decode prog_13_method_25_code 53 = .ok (.iastore, 1) := by decide +kernel
theorem zd_Ref_turn_54 : decode prog_13_method_25_code 54 = .ok (.aload_n 0, 1) := by decide +kernel
theorem zd_Ref_turn_55 : decode prog_13_method_25_code 55 = .ok (.getfield 29, 3) := by decide +kernel
theorem zd_Ref_turn_58 : decode prog_13_method_25_code 58 = .ok (.iconst 2, 1) := by decide +kernel
theorem zd_Ref_turn_59 : decode prog_13_method_25_code 59 = .ok (.iload_n 1, 1) := by decide +kernel
theorem zd_Ref_turn_60 : decode prog_13_method_25_code 60 = .ok (.imul, 1) := by decide +kernel
theorem zd_Ref_turn_61 : decode prog_13_method_25_code 61 = .ok (.iconst 1, 1) := by decide +kernel
theorem zd_Ref_turn_62 : decode prog_13_method_25_code 62 = .ok (.iastore, 1) := by decide +kernel
theorem zd_Ref_turn_63 : decode prog_13_method_25_code 63 = .ok (.aload_n 0, 1) := by decide +kernel
theorem zd_Ref_turn_64 : decode prog_13_method_25_code 64 = .ok (.getfield 29, 3) := by decide +kernel
theorem zd_Ref_turn_67 : decode prog_13_method_25_code 67 = .ok (.iconst 2, 1) := by decide +kernel
theorem zd_Ref_turn_68 : decode prog_13_method_25_code 68 = .ok (.iload_n 1, 1) := by decide +kernel
theorem zd_Ref_turn_69 : decode prog_13_method_25_code 69 = .ok (.imul, 1) := by decide +kernel
theorem zd_Ref_turn_70 : decode prog_13_method_25_code 70 = .ok (.iconst 1, 1) := by decide +kernel
theorem zd_Ref_turn_71 : decode prog_13_method_25_code 71 = .ok (.iadd, 1) := by decide +kernel
theorem zd_Ref_turn_72 : decode prog_13_method_25_code 72 = .ok (.iconst 1, 1) := by decide +kernel
theorem zd_Ref_turn_73 : decode prog_13_method_25_code 73 = .ok (.iastore, 1) := by decide +kernel
theorem zd_Ref_turn_74 : decode prog_13_method_25_code 74 = .ok (.iconst 0, 1) := by decide +kernel
theorem zd_Ref_turn_75 : decode prog_13_method_25_code 75 = .ok (.istore_n 2, 1) := by decide +kernel
theorem zd_Ref_turn_76 : decode prog_13_method_25_code 76 = .ok (.iload_n 2, 1) := by decide +kernel
theorem zd_Ref_turn_77 : decode prog_13_method_25_code 77 = .ok (.aload_n 0, 1) := by decide +kernel
theorem zd_Ref_turn_78 : decode prog_13_method_25_code 78 = .ok (.getfield 76, 3) := by decide +kernel
theorem zd_Ref_turn_81 : decode prog_13_method_25_code 81 = .ok (.if_icmp .ge 68, 3) := by decide +kernel
theorem zd_Ref_turn_84 : decode prog_13_method_25_code 84 = .ok (.aload_n 0, 1) := by decide +kernel
theorem zd_Ref_turn_85 : decode prog_13_method_25_code 85 = .ok (.getfield 32, 3) := by decide +kernel
theorem zd_Ref_turn_88 : decode prog_13_method_25_code 88 = .ok (.iload_n 1, 1) := by decide +kernel
theorem zd_Ref_turn_89 : decode prog_13_method_25_code 89 = .ok (.iaload, 1) := by decide +kernel
theorem zd_Ref_turn_90 : decode prog_13_method_25_code 90 = .ok (.iload_n 2, 1) := by decide +kernel
theorem zd_Ref_turn_91 : decode prog_13_method_25_code 91 = .ok (.invokestatic 93, 3) := by decide +kernel
theorem zd_Ref_turn_94 : decode prog_13_method_25_code 94 = .ok (.ifCond .eq 49, 3) := by decide +kernel
theorem zd_Ref_turn_97 : decode prog_13_method_25_code 97 = .ok (.aload_n 0, 1) := by decide +kernel
theorem zd_Ref_turn_98 : decode prog_13_method_25_code 98 = .ok (.iload_n 1, 1) := by decide +kernel
theorem zd_Ref_turn_99 : decode prog_13_method_25_code 99 = .ok (.aload_n 0, 1) := by decide +kernel
theorem zd_Ref_turn_100 : decode prog_13_method_25_code 100 = .ok (.getfield 7, 3) := by decide +kernel
theorem zd_Ref_turn_103 : decode prog_13_method_25_code 103 = .ok (.iconst 3, 1) := by decide +kernel
theorem zd_Ref_turn_104 : decode prog_13_method_25_code 104 = .ok (.iload_n 2, 1) := by decide +kernel
theorem zd_Ref_turn_105 : decode prog_13_method_25_code 105 = .ok (.imul, 1) := by decide +kernel
theorem zd_Ref_turn_106 : decode prog_13_method_25_code 106 = .ok (.iaload, 1) := by decide +kernel
theorem zd_Ref_turn_107 : decode prog_13_method_25_code 107 = .ok (.aload_n 0, 1) := by decide +kernel
theorem zd_Ref_turn_108 : decode prog_13_method_25_code 108 = .ok (.getfield 7, 3) := by decide +kernel
theorem zd_Ref_turn_111 : decode prog_13_method_25_code 111 = .ok (.iconst 3, 1) := by decide +kernel
theorem zd_Ref_turn_112 : decode prog_13_method_25_code 112 = .ok (.iload_n 2, 1) := by decide +kernel
theorem zd_Ref_turn_113 : decode prog_13_method_25_code 113 = .ok (.imul, 1) := by decide +kernel
theorem zd_Ref_turn_114 : decode prog_13_method_25_code 114 = .ok (.iconst 1, 1) := by decide +kernel
theorem zd_Ref_turn_115 : decode prog_13_method_25_code 115 = .ok (.iadd, 1) := by decide +kernel
theorem zd_Ref_turn_116 : decode prog_13_method_25_code 116 = .ok (.iaload, 1) := by decide +kernel
theorem zd_Ref_turn_117 : decode prog_13_method_25_code 117 = .ok (.aload_n 0, 1) := by decide +kernel
theorem zd_Ref_turn_118 : decode prog_13_method_25_code 118 = .ok (.getfield 7, 3) := by decide +kernel
theorem zd_Ref_turn_121 : decode prog_13_method_25_code 121 = .ok (.iconst 3, 1) := by decide +kernel
theorem zd_Ref_turn_122 : decode prog_13_method_25_code 122 = .ok (.iload_n 2, 1) := by decide +kernel
theorem zd_Ref_turn_123 : decode prog_13_method_25_code 123 = .ok (.imul, 1) := by decide +kernel
theorem zd_Ref_turn_124 : decode prog_13_method_25_code 124 = .ok (.iconst 2, 1) := by decide +kernel
theorem zd_Ref_turn_125 : decode prog_13_method_25_code 125 = .ok (.iadd, 1) := by decide +kernel
theorem zd_Ref_turn_126 : decode prog_13_method_25_code 126 = .ok (.iaload, 1) := by decide +kernel
theorem zd_Ref_turn_127 : decode prog_13_method_25_code 127 = .ok (.invokevirtual 169, 3) := by decide +kernel
theorem zd_Ref_turn_130 : decode prog_13_method_25_code 130 = .ok (.istore_n 3, 1) := by decide +kernel
theorem zd_Ref_turn_131 : decode prog_13_method_25_code 131 = .ok (.aload_n 0, 1) := by decide +kernel
theorem zd_Ref_turn_132 : decode prog_13_method_25_code 132 = .ok (.getfield 32, 3) := by decide +kernel
theorem zd_Ref_turn_135 : decode prog_13_method_25_code 135 = .ok (.iload_n 3, 1) := by decide +kernel
theorem zd_Ref_turn_136 : decode prog_13_method_25_code 136 = .ok (.dup2, 1) := by decide +kernel
theorem zd_Ref_turn_137 : decode prog_13_method_25_code 137 = .ok (.iaload, 1) := by decide +kernel
theorem zd_Ref_turn_138 : decode prog_13_method_25_code 138 = .ok (.iconst 1, 1) := by decide +kernel
theorem zd_Ref_turn_139 : decode prog_13_method_25_code 139 = .ok (.iload_n 2, 1) := by decide +kernel
theorem zd_Ref_turn_140 : decode prog_13_method_25_code 140 = .ok (.ishl, 1) := by decide +kernel
theorem zd_Ref_turn_141 : decode prog_13_method_25_code 141 = .ok (.ior, 1) := by decide +kernel
theorem zd_Ref_turn_142 : decode prog_13_method_25_code 142 = .ok (.iastore, 1) := by decide +kernel
theorem zd_Ref_turn_143 : decode prog_13_method_25_code 143 = .ok (.iinc 2 1, 3) := by decide +kernel
theorem zd_Ref_turn_146 : decode prog_13_method_25_code 146 = .ok (.goto (-70), 3) := by decide +kernel
theorem zd_Ref_turn_149 : decode prog_13_method_25_code 149 = .ok (.return_, 1) := by decide +kernel
def zm_Ref_depthOf : zg_M := (⟨"SurrogateTreeModel", "depthOf", "(I)I"⟩, prog_13_method_24_code, 1, (some .int))
theorem zd_Ref_depthOf_0 : decode prog_13_method_24_code 0 = .ok (.iload_n 0, 1) := by decide +kernel
theorem zd_Ref_depthOf_1 : decode prog_13_method_24_code 1 = .ok (.bipush 16, 2) := by decide +kernel
theorem zd_Ref_depthOf_3 : decode prog_13_method_24_code 3 = .ok (.if_icmp .lt 7, 3) := by decide +kernel
theorem zd_Ref_depthOf_6 : decode prog_13_method_24_code 6 = .ok (.iconst 4, 1) := by decide +kernel
theorem zd_Ref_depthOf_7 : decode prog_13_method_24_code 7 = .ok (.goto 32, 3) := by decide +kernel
theorem zd_Ref_depthOf_10 : decode prog_13_method_24_code 10 = .ok (.iload_n 0, 1) := by decide +kernel
theorem zd_Ref_depthOf_11 : decode prog_13_method_24_code 11 = .ok (.bipush 8, 2) := by decide +kernel
theorem zd_Ref_depthOf_13 : decode prog_13_method_24_code 13 = .ok (.if_icmp .lt 7, 3) := by decide +kernel
theorem zd_Ref_depthOf_16 : decode prog_13_method_24_code 16 = .ok (.iconst 3, 1) := by decide +kernel
theorem zd_Ref_depthOf_17 : decode prog_13_method_24_code 17 = .ok (.goto 22, 3) := by decide +kernel
theorem zd_Ref_depthOf_20 : decode prog_13_method_24_code 20 = .ok (.iload_n 0, 1) := by decide +kernel
theorem zd_Ref_depthOf_21 : decode prog_13_method_24_code 21 = .ok (.iconst 4, 1) := by decide +kernel
theorem zd_Ref_depthOf_22 : decode prog_13_method_24_code 22 = .ok (.if_icmp .lt 7, 3) := by decide +kernel
theorem zd_Ref_depthOf_25 : decode prog_13_method_24_code 25 = .ok (.iconst 2, 1) := by decide +kernel
theorem zd_Ref_depthOf_26 : decode prog_13_method_24_code 26 = .ok (.goto 13, 3) := by decide +kernel
theorem zd_Ref_depthOf_29 : decode prog_13_method_24_code 29 = .ok (.iload_n 0, 1) := by decide +kernel
theorem zd_Ref_depthOf_30 : decode prog_13_method_24_code 30 = .ok (.iconst 2, 1) := by decide +kernel
theorem zd_Ref_depthOf_31 : decode prog_13_method_24_code 31 = .ok (.if_icmp .lt 7, 3) := by decide +kernel
theorem zd_Ref_depthOf_34 : decode prog_13_method_24_code 34 = .ok (.iconst 1, 1) := by decide +kernel
theorem zd_Ref_depthOf_35 : decode prog_13_method_24_code 35 = .ok (.goto 4, 3) := by decide +kernel
theorem zd_Ref_depthOf_38 : decode prog_13_method_24_code 38 = .ok (.iconst 0, 1) := by decide +kernel
theorem zd_Ref_depthOf_39 : decode prog_13_method_24_code 39 = .ok (.ireturn, 1) := by decide +kernel
def zm_Ref_seek : zg_M := (⟨"SurrogateTreeModel", "seek", "(I)Z"⟩, prog_13_method_18_code, 13, (some .boolean))
theorem zd_Ref_seek_0 : decode prog_13_method_18_code 0 = .ok (.iconst 0, 1) := by decide +kernel
theorem zd_Ref_seek_1 : decode prog_13_method_18_code 1 = .ok (.istore_n 2, 1) := by decide +kernel
theorem zd_Ref_seek_2 : decode prog_13_method_18_code 2 = .ok (.iconst 1, 1) := by decide +kernel
theorem zd_Ref_seek_3 : decode prog_13_method_18_code 3 = .ok (.istore_n 3, 1) := by decide +kernel
theorem zd_Ref_seek_4 : decode prog_13_method_18_code 4 = .ok (.aload_n 0, 1) := by decide +kernel
theorem zd_Ref_seek_5 : decode prog_13_method_18_code 5 = .ok (.iconst (-1), 1) := by decide +kernel
theorem zd_Ref_seek_6 : decode prog_13_method_18_code 6 = .ok (.putfield 115, 3) := by decide +kernel
theorem zd_Ref_seek_9 : decode prog_13_method_18_code 9 = .ok (.iconst 0, 1) := by decide +kernel
theorem zd_Ref_seek_10 : decode prog_13_method_18_code 10 = .ok (.istore 4, 2) := by decide +kernel
theorem zd_Ref_seek_12 : decode prog_13_method_18_code 12 = .ok (.iload 4, 2) := by decide +kernel
theorem zd_Ref_seek_14 : decode prog_13_method_18_code 14 = .ok (.iconst 3, 1) := by decide +kernel
theorem zd_Ref_seek_15 : decode prog_13_method_18_code 15 = .ok (.if_icmp .ge 226, 3) := by decide +kernel
theorem zd_Ref_seek_18 : decode prog_13_method_18_code 18 = .ok (.aload_n 0, 1) := by decide +kernel
theorem zd_Ref_seek_19 : decode prog_13_method_18_code 19 = .ok (.aload_n 0, 1) := by decide +kernel
theorem zd_Ref_seek_20 : decode prog_13_method_18_code 20 = .ok (.getfield 32, 3) := by decide +kernel
theorem zd_Ref_seek_23 : decode prog_13_method_18_code 23 = .ok (.iload_n 1, 1) := by decide +kernel
theorem zd_Ref_seek_24 : decode prog_13_method_18_code 24 = .ok (.iaload, 1) := by decide +kernel
theorem zd_Ref_seek_25 : decode prog_13_method_18_code 25 = .ok (.iload 4, 2) := by decide +kernel
theorem zd_Ref_seek_27 : decode prog_13_method_18_code 27 = .ok (.invokevirtual 118, 3) := by decide +kernel
theorem zd_Ref_seek_30 : decode prog_13_method_18_code 30 = .ok (.istore 5, 2) := by decide +kernel
theorem zd_Ref_seek_32 : decode prog_13_method_18_code 32 = .ok (.iconst 0, 1) := by decide +kernel
theorem zd_Ref_seek_33 : decode prog_13_method_18_code 33 = .ok (.istore 6, 2) := by decide +kernel
theorem zd_Ref_seek_35 : decode prog_13_method_18_code 35 = .ok (.iload 6, 2) := by decide +kernel
theorem zd_Ref_seek_37 : decode prog_13_method_18_code 37 = .ok (.sipush 256, 3) := by decide +kernel
theorem zd_Ref_seek_40 : decode prog_13_method_18_code 40 = .ok (.if_icmp .ge 195, 3) := by decide +kernel
theorem zd_Ref_seek_43 : decode prog_13_method_18_code 43 = .ok (.iload 6, 2) := by decide +kernel
theorem zd_Ref_seek_45 : decode prog_13_method_18_code 45 = .ok (.iconst 4, 1) := by decide +kernel
theorem zd_Ref_seek_46 : decode prog_13_method_18_code 46 = .ok (.ishr, 1) := by decide +kernel
theorem zd_Ref_seek_47 : decode prog_13_method_18_code 47 = .ok (.istore 7, 2) := by decide +kernel
theorem zd_Ref_seek_49 : decode prog_13_method_18_code 49 = .ok (.iload 6, 2) := by decide +kernel
theorem zd_Ref_seek_51 : decode prog_13_method_18_code 51 = .ok (.bipush 15, 2) := by decide +kernel
theorem zd_Ref_seek_53 : decode prog_13_method_18_code 53 = .ok (.iand, 1) := by decide +kernel
theorem zd_Ref_seek_54 : decode prog_13_method_18_code 54 = .ok (.istore 8, 2) := by decide +kernel
theorem zd_Ref_seek_56 : decode prog_13_method_18_code 56 = .ok (.iload 7, 2) := by decide +kernel
theorem zd_Ref_seek_58 : decode prog_13_method_18_code 58 = .ok (.aload_n 0, 1) := by decide +kernel
theorem zd_Ref_seek_59 : decode prog_13_method_18_code 59 = .ok (.getfield 76, 3) := by decide +kernel
theorem zd_Ref_seek_62 : decode prog_13_method_18_code 62 = .ok (.if_icmp .ge 167, 3) := by decide +kernel
theorem zd_Ref_seek_65 : decode prog_13_method_18_code 65 = .ok (.iload 8, 2) := by decide +kernel
theorem zd_Ref_seek_67 : decode prog_13_method_18_code 67 = .ok (.aload_n 0, 1) := by decide +kernel
theorem zd_Ref_seek_68 : decode prog_13_method_18_code 68 = .ok (.getfield 76, 3) := by decide +kernel
theorem zd_Ref_seek_71 : decode prog_13_method_18_code 71 = .ok (.if_icmp .ge 158, 3) := by decide +kernel
theorem zd_Ref_seek_74 : decode prog_13_method_18_code 74 = .ok (.aload_n 0, 1) := by decide +kernel
theorem zd_Ref_seek_75 : decode prog_13_method_18_code 75 = .ok (.iload 5, 2) := by decide +kernel
theorem zd_Ref_seek_77 : decode prog_13_method_18_code 77 = .ok (.iload 4, 2) := by decide +kernel
theorem zd_Ref_seek_79 : decode prog_13_method_18_code 79 = .ok (.iload 7, 2) := by decide +kernel
theorem zd_Ref_seek_81 : decode prog_13_method_18_code 81 = .ok (.iload 8, 2) := by decide +kernel
theorem zd_Ref_seek_83 : decode prog_13_method_18_code 83 = .ok (.invokevirtual 121, 3) := by decide +kernel
theorem zd_Ref_seek_86 : decode prog_13_method_18_code 86 = .ok (.ifCond .ne 6, 3) := by decide +kernel
theorem zd_Ref_seek_89 : decode prog_13_method_18_code 89 = .ok (.goto 140, 3) := by decide +kernel
theorem zd_Ref_seek_92 : decode prog_13_method_18_code 92 = .ok (.aload_n 0, 1) := by decide +kernel
theorem zd_Ref_seek_93 : decode prog_13_method_18_code 93 = .ok (.iload 4, 2) := by decide +kernel
theorem zd_Ref_seek_95 : decode prog_13_method_18_code 95 = .ok (.iload 7, 2) := by decide +kernel
theorem zd_Ref_seek_97 : decode prog_13_method_18_code 97 = .ok (.iload 8, 2) := by decide +kernel
theorem zd_Ref_seek_99 : decode prog_13_method_18_code 99 = .ok (.invokevirtual 125, 3) := by decide +kernel
theorem zd_Ref_seek_102 : decode prog_13_method_18_code 102 = .ok (.istore 9, 2) := by decide +kernel
theorem zd_Ref_seek_104 : decode prog_13_method_18_code 104 = .ok (.aload_n 0, 1) := by decide +kernel
theorem zd_Ref_seek_105 : decode prog_13_method_18_code 105 = .ok (.iload 5, 2) := by decide +kernel
theorem zd_Ref_seek_107 : decode prog_13_method_18_code 107 = .ok (.iload 4, 2) := by decide +kernel
theorem zd_Ref_seek_109 : decode prog_13_method_18_code 109 = .ok (.iload 9, 2) := by decide +kernel
theorem zd_Ref_seek_111 : decode prog_13_method_18_code 111 = .ok (.invokevirtual 129, 3) := by decide +kernel
theorem zd_Ref_seek_114 : decode prog_13_method_18_code 114 = .ok (.istore 10, 2) := by decide +kernel
theorem zd_Ref_seek_116 : decode prog_13_method_18_code 116 = .ok (.iload 5, 2) := by decide +kernel
theorem zd_Ref_seek_118 : decode prog_13_method_18_code 118 = .ok (.iload 10, 2) := by decide +kernel
theorem zd_Ref_seek_120 : decode prog_13_method_18_code 120 = .ok (.iconst (-1), 1) := by decide +kernel
theorem zd_Ref_seek_121 : decode prog_13_method_18_code 121 = .ok (.ixor, 1) := by decide +kernel
theorem zd_Ref_seek_122 : decode prog_13_method_18_code 122 = .ok (.iand, 1) := by decide +kernel
theorem zd_Ref_seek_123 : decode prog_13_method_18_code 123 = .ok (.istore 11, 2) := by decide +kernel
theorem zd_Ref_seek_125 : decode prog_13_method_18_code 125 = .ok (.aload_n 0, 1) := by decide +kernel
theorem zd_Ref_seek_126 : decode prog_13_method_18_code 126 = .ok (.iload 10, 2) := by decide +kernel
theorem zd_Ref_seek_128 : decode prog_13_method_18_code 128 = .ok (.iconst (-1), 1) := by decide +kernel
theorem zd_Ref_seek_129 : decode prog_13_method_18_code 129 = .ok (.invokevirtual 98, 3) := by decide +kernel
theorem zd_Ref_seek_132 : decode prog_13_method_18_code 132 = .ok (.aload_n 0, 1) := by decide +kernel
theorem zd_Ref_seek_133 : decode prog_13_method_18_code 133 = .ok (.getfield 26, 3) := by decide +kernel
theorem zd_Ref_seek_136 : decode prog_13_method_18_code 136 = .ok (.if_icmp .lt 93, 3) := by decide +kernel
theorem zd_Ref_seek_139 : decode prog_13_method_18_code 139 = .ok (.aload_n 0, 1) := by decide +kernel
theorem zd_Ref_seek_140 : decode prog_13_method_18_code 140 = .ok (.iload 11, 2) := by decide +kernel
theorem zd_Ref_seek_142 : decode prog_13_method_18_code 142 = .ok (.iconst (-1), 1) := by decide +kernel
theorem zd_Ref_seek_143 : decode prog_13_method_18_code 143 = .ok (.invokevirtual 98, 3) := by decide +kernel
theorem zd_Ref_seek_146 : decode prog_13_method_18_code 146 = .ok (.aload_n 0, 1) := by decide +kernel
theorem zd_Ref_seek_147 : decode prog_13_method_18_code 147 = .ok (.getfield 26, 3) := by decide +kernel
theorem zd_Ref_seek_150 : decode prog_13_method_18_code 150 = .ok (.if_icmp .ge 6, 3) := by decide +kernel
theorem zd_Ref_seek_153 : decode prog_13_method_18_code 153 = .ok (.goto 76, 3) := by decide +kernel
theorem zd_Ref_seek_156 : decode prog_13_method_18_code 156 = .ok (.aload_n 0, 1) := by decide +kernel
theorem zd_Ref_seek_157 : decode prog_13_method_18_code 157 = .ok (.iload 10, 2) := by decide +kernel
theorem zd_Ref_seek_159 : decode prog_13_method_18_code 159 = .ok (.iload 11, 2) := by decide +kernel
theorem zd_Ref_seek_161 : decode prog_13_method_18_code 161 = .ok (.invokevirtual 132, 3) := by decide +kernel
theorem zd_Ref_seek_164 : decode prog_13_method_18_code 164 = .ok (.aload_n 0, 1) := by decide +kernel
theorem zd_Ref_seek_165 : decode prog_13_method_18_code 165 = .ok (.getfield 109, 3) := by decide +kernel
theorem zd_Ref_seek_168 : decode prog_13_method_18_code 168 = .ok (.iload_n 3, 1) := by decide +kernel
theorem zd_Ref_seek_169 : decode prog_13_method_18_code 169 = .ok (.imul, 1) := by decide +kernel
theorem zd_Ref_seek_170 : decode prog_13_method_18_code 170 = .ok (.iload_n 2, 1) := by decide +kernel
theorem zd_Ref_seek_171 : decode prog_13_method_18_code 171 = .ok (.aload_n 0, 1) := by decide +kernel
theorem zd_Ref_seek_172 : decode prog_13_method_18_code 172 = .ok (.getfield 112, 3) := by decide +kernel
theorem zd_Ref_seek_175 : decode prog_13_method_18_code 175 = .ok (.imul, 1) := by decide +kernel
theorem zd_Ref_seek_176 : decode prog_13_method_18_code 176 = .ok (.isub, 1) := by decide +kernel
theorem zd_Ref_seek_177 : decode prog_13_method_18_code 177 = .ok (.istore 12, 2) := by decide +kernel
theorem zd_Ref_seek_179 : decode prog_13_method_18_code 179 = .ok (.iload 12, 2) := by decide +kernel
theorem zd_Ref_seek_181 : decode prog_13_method_18_code 181 = .ok (.ifCond .gt 26, 3) := by decide +kernel
theorem zd_Ref_seek_184 : decode prog_13_method_18_code 184 = .ok (.iload 12, 2) := by decide +kernel
theorem zd_Ref_seek_186 : decode prog_13_method_18_code 186 = .ok (.ifCond .ne 43, 3) := by decide +kernel
theorem zd_Ref_seek_189 : decode prog_13_method_18_code 189 = .ok (.aload_n 0, 1) := by decide +kernel
theorem zd_Ref_seek_190 : decode prog_13_method_18_code 190 = .ok (.getfield 115, 3) := by decide +kernel
theorem zd_Ref_seek_193 : decode prog_13_method_18_code 193 = .ok (.iload 4, 2) := by decide +kernel
theorem zd_Ref_seek_195 : decode prog_13_method_18_code 195 = .ok (.if_icmp .ne 34, 3) := by decide +kernel
theorem zd_Ref_seek_198 : decode prog_13_method_18_code 198 = .ok (.iload 9, 2) := by decide +kernel
theorem zd_Ref_seek_200 : decode prog_13_method_18_code 200 = .ok (.aload_n 0, 1) := by decide +kernel
theorem zd_Ref_seek_201 : decode prog_13_method_18_code 201 = .ok (.getfield 136, 3) := by decide +kernel
theorem zd_Ref_seek_204 : decode prog_13_method_18_code 204 = .ok (.if_icmp .ge 25, 3) := by decide +kernel
theorem zd_Ref_seek_207 : decode prog_13_method_18_code 207 = .ok (.aload_n 0, 1) := by decide +kernel
theorem zd_Ref_seek_208 : decode prog_13_method_18_code 208 = .ok (.getfield 109, 3) := by decide +kernel
theorem zd_Ref_seek_211 : decode prog_13_method_18_code 211 = .ok (.istore_n 2, 1) := by decide +kernel
theorem zd_Ref_seek_212 : decode prog_13_method_18_code 212 = .ok (.aload_n 0, 1) := by decide +kernel
theorem zd_Ref_seek_213 : decode prog_13_method_18_code 213 = .ok (.getfield 112, 3) := by decide +kernel
theorem zd_Ref_seek_216 : decode prog_13_method_18_code 216 = .ok (.istore_n 3, 1) := by decide +kernel
theorem zd_Ref_seek_217 : decode prog_13_method_18_code 217 = .ok (.aload_n 0, 1) := by decide +kernel
theorem zd_Ref_seek_218 : decode prog_13_method_18_code 218 = .ok (.iload 4, 2) := by decide +kernel
theorem zd_Ref_seek_220 : decode prog_13_method_18_code 220 = .ok (.putfield 115, 3) := by decide +kernel
theorem zd_Ref_seek_223 : decode prog_13_method_18_code 223 = .ok (.aload_n 0, 1) := by decide +kernel
theorem zd_Ref_seek_224 : decode prog_13_method_18_code 224 = .ok (.iload 9, 2) := by decide +kernel
theorem zd_Ref_seek_226 : decode prog_13_method_18_code 226 = .ok (.putfield 136, 3) := by decide +kernel
theorem zd_Ref_seek_229 : decode prog_13_method_18_code 229 = .ok (.iinc 6 1, 3) := by decide +kernel
theorem zd_Ref_seek_232 : decode prog_13_method_18_code 232 = .ok (.goto (-197), 3) := by decide +kernel
theorem zd_Ref_seek_235 : decode prog_13_method_18_code 235 = .ok (.iinc 4 1, 3) := by decide +kernel
theorem zd_Ref_seek_238 : decode prog_13_method_18_code 238 = .ok (.goto (-226), 3) := by decide +kernel
theorem zd_Ref_seek_241 : decode prog_13_method_18_code 241 = .ok (.aload_n 0, 1) := by decide +kernel
theorem zd_Ref_seek_242 : decode prog_13_method_18_code 242 = .ok (.getfield 115, 3) := by decide +kernel
theorem zd_Ref_seek_245 : decode prog_13_method_18_code 245 = .ok (.ifCond .lt 7, 3) := by decide +kernel
theorem zd_Ref_seek_248 : decode prog_13_method_18_code 248 = .ok (.iconst 1, 1) := by decide +kernel
theorem zd_Ref_seek_249 : decode prog_13_method_18_code 249 = .ok (.goto 4, 3) := by decide +kernel
theorem zd_Ref_seek_252 : decode prog_13_method_18_code 252 = .ok (.iconst 0, 1) := by decide +kernel
theorem zd_Ref_seek_253 : decode prog_13_method_18_code 253 = .ok (.ireturn, 1) := by decide +kernel
def zm_Ref_present : zg_M := (⟨"SurrogateTreeModel", "present", "(II)I"⟩, prog_13_method_10_code, 5, (some .int))
theorem zd_Ref_present_0 : decode prog_13_method_10_code 0 = .ok (.iconst 0, 1) := by decide +kernel
theorem zd_Ref_present_1 : decode prog_13_method_10_code 1 = .ok (.istore_n 3, 1) := by decide +kernel
theorem zd_Ref_present_2 : decode prog_13_method_10_code 2 = .ok (.iconst 0, 1) := by decide +kernel
theorem zd_Ref_present_3 : decode prog_13_method_10_code 3 = .ok (.istore 4, 2) := by decide +kernel
theorem zd_Ref_present_5 : decode prog_13_method_10_code 5 = .ok (.iload 4, 2) := by decide +kernel
theorem zd_Ref_present_7 : decode prog_13_method_10_code 7 = .ok (.aload_n 0, 1) := by decide +kernel
theorem zd_Ref_present_8 : decode prog_13_method_10_code 8 = .ok (.getfield 76, 3) := by decide +kernel
theorem zd_Ref_present_11 : decode prog_13_method_10_code 11 = .ok (.if_icmp .ge 45, 3) := by decide +kernel
theorem zd_Ref_present_14 : decode prog_13_method_10_code 14 = .ok (.iload_n 1, 1) := by decide +kernel
theorem zd_Ref_present_15 : decode prog_13_method_10_code 15 = .ok (.iload 4, 2) := by decide +kernel
theorem zd_Ref_present_17 : decode prog_13_method_10_code 17 = .ok (.invokestatic 93, 3) := by decide +kernel
theorem zd_Ref_present_20 : decode prog_13_method_10_code 20 = .ok (.ifCond .eq 28, 3) := by decide +kernel
theorem zd_Ref_present_23 : decode prog_13_method_10_code 23 = .ok (.aload_n 0, 1) := by decide +kernel
theorem zd_Ref_present_24 : decode prog_13_method_10_code 24 = .ok (.getfield 7, 3) := by decide +kernel
theorem zd_Ref_present_27 : decode prog_13_method_10_code 27 = .ok (.iconst 3, 1) := by decide +kernel
theorem zd_Ref_present_28 : decode prog_13_method_10_code 28 = .ok (.iload 4, 2) := by decide +kernel
theorem zd_Ref_present_30 : decode prog_13_method_10_code 30 = .ok (.imul, 1) := by decide +kernel
theorem zd_Ref_present_31 : decode prog_13_method_10_code 31 = .ok (.iload_n 2, 1) := by decide +kernel
theorem zd_Ref_present_32 : decode prog_13_method_10_code 32 = .ok (.iadd, 1) := by decide +kernel
theorem zd_Ref_present_33 : decode prog_13_method_10_code 33 = .ok (.iaload, 1) := by decide +kernel
theorem zd_Ref_present_34 : decode prog_13_method_10_code 34 = .ok (.ldc 97, 2) := by decide +kernel
theorem zd_Ref_present_36 : decode prog_13_method_10_code 36 = .ok (.if_icmp .eq 12, 3) := by decide +kernel
theorem zd_Ref_present_39 : decode prog_13_method_10_code 39 = .ok (.iload_n 3, 1) := by decide +kernel
theorem zd_Ref_present_40 : decode prog_13_method_10_code 40 = .ok (.iconst 1, 1) := by decide +kernel
theorem zd_Ref_present_41 : decode prog_13_method_10_code 41 = .ok (.iload 4, 2) := by decide +kernel
theorem zd_Ref_present_43 : decode prog_13_method_10_code 43 = .ok (.ishl, 1) := by decide +kernel
theorem zd_Ref_present_44 : decode prog_13_method_10_code 44 = .ok (.ior, 1) := by decide +kernel
theorem zd_Ref_present_45 : decode prog_13_method_10_code 45 = .ok (.goto 4, 3) := by decide +kernel
theorem zd_Ref_present_48 : decode prog_13_method_10_code 48 = .ok (.iload_n 3, 1) := by decide +kernel
theorem zd_Ref_present_49 : decode prog_13_method_10_code 49 = .ok (.istore_n 3, 1) := by decide +kernel
theorem zd_Ref_present_50 : decode prog_13_method_10_code 50 = .ok (.iinc 4 1, 3) := by decide +kernel
theorem zd_Ref_present_53 : decode prog_13_method_10_code 53 = .ok (.goto (-48), 3) := by decide +kernel
theorem zd_Ref_present_56 : decode prog_13_method_10_code 56 = .ok (.iload_n 3, 1) := by decide +kernel
theorem zd_Ref_present_57 : decode prog_13_method_10_code 57 = .ok (.ireturn, 1) := by decide +kernel
def zm_Ref_has : zg_M := (⟨"SurrogateTreeModel", "has", "(II)Z"⟩, prog_13_method_8_code, 2, (some .boolean))
theorem zd_Ref_has_0 : decode prog_13_method_8_code 0 = .ok (.iload_n 0, 1) := by decide +kernel
theorem zd_Ref_has_1 : decode prog_13_method_8_code 1 = .ok (.iload_n 1, 1) := by decide +kernel
theorem zd_Ref_has_2 : decode prog_13_method_8_code 2 = .ok (.ishr, 1) := by decide +kernel
theorem zd_Ref_has_3 : decode prog_13_method_8_code 3 = .ok (.iconst 1, 1) := by decide +kernel
theorem zd_Ref_has_4 : decode prog_13_method_8_code 4 = .ok (.iand, 1) := by decide +kernel
theorem zd_Ref_has_5 : decode prog_13_method_8_code 5 = .ok (.ifCond .eq 7, 3) := by decide +kernel
theorem zd_Ref_has_8 : decode prog_13_method_8_code 8 = .ok (.iconst 1, 1) := by decide +kernel
theorem zd_Ref_has_9 : decode prog_13_method_8_code 9 = .ok (.goto 4, 3) := by decide +kernel
theorem zd_Ref_has_12 : decode prog_13_method_8_code 12 = .ok (.iconst 0, 1) := by decide +kernel
theorem zd_Ref_has_13 : decode prog_13_method_8_code 13 = .ok (.ireturn, 1) := by decide +kernel
def zm_Ref_next : zg_M := (⟨"SurrogateTreeModel", "next", "(IIII)Z"⟩, prog_13_method_12_code, 8, (some .boolean))
theorem zd_Ref_next_0 : decode prog_13_method_12_code 0 = .ok (.iload_n 1, 1) := by decide +kernel
theorem zd_Ref_next_1 : decode prog_13_method_12_code 1 = .ok (.iload_n 3, 1) := by decide +kernel
theorem zd_Ref_next_2 : decode prog_13_method_12_code 2 = .ok (.invokestatic 93, 3) := by decide +kernel
theorem zd_Ref_next_5 : decode prog_13_method_12_code 5 = .ok (.ifCond .eq 36, 3) := by decide +kernel
theorem zd_Ref_next_8 : decode prog_13_method_12_code 8 = .ok (.iload_n 1, 1) := by decide +kernel
theorem zd_Ref_next_9 : decode prog_13_method_12_code 9 = .ok (.iload 4, 2) := by decide +kernel
theorem zd_Ref_next_11 : decode prog_13_method_12_code 11 = .ok (.invokestatic 93, 3) := by decide +kernel
theorem zd_Ref_next_14 : decode prog_13_method_12_code 14 = .ok (.ifCond .eq 27, 3) := by decide +kernel
theorem zd_Ref_next_17 : decode prog_13_method_12_code 17 = .ok (.aload_n 0, 1) := by decide +kernel
theorem zd_Ref_next_18 : decode prog_13_method_12_code 18 = .ok (.getfield 7, 3) := by decide +kernel
theorem zd_Ref_next_21 : decode prog_13_method_12_code 21 = .ok (.iconst 3, 1) := by decide +kernel
theorem zd_Ref_next_22 : decode prog_13_method_12_code 22 = .ok (.iload_n 3, 1) := by decide +kernel
theorem zd_Ref_next_23 : decode prog_13_method_12_code 23 = .ok (.imul, 1) := by decide +kernel
theorem zd_Ref_next_24 : decode prog_13_method_12_code 24 = .ok (.iload_n 2, 1) := by decide +kernel
theorem zd_Ref_next_25 : decode prog_13_method_12_code 25 = .ok (.iadd, 1) := by decide +kernel
theorem zd_Ref_next_26 : decode prog_13_method_12_code 26 = .ok (.iaload, 1) := by decide +kernel
theorem zd_Ref_next_27 : decode prog_13_method_12_code 27 = .ok (.aload_n 0, 1) := by decide +kernel
theorem zd_Ref_next_28 : decode prog_13_method_12_code 28 = .ok (.getfield 7, 3) := by decide +kernel
theorem zd_Ref_next_31 : decode prog_13_method_12_code 31 = .ok (.iconst 3, 1) := by decide +kernel
theorem zd_Ref_next_32 : decode prog_13_method_12_code 32 = .ok (.iload 4, 2) := by decide +kernel
theorem zd_Ref_next_34 : decode prog_13_method_12_code 34 = .ok (.imul, 1) := by decide +kernel
theorem zd_Ref_next_35 : decode prog_13_method_12_code 35 = .ok (.iload_n 2, 1) := by decide +kernel
theorem zd_Ref_next_36 : decode prog_13_method_12_code 36 = .ok (.iadd, 1) := by decide +kernel
theorem zd_Ref_next_37 : decode prog_13_method_12_code 37 = .ok (.iaload, 1) := by decide +kernel
theorem zd_Ref_next_38 : decode prog_13_method_12_code 38 = .ok (.if_icmp .lt 5, 3) := by decide +kernel
theorem zd_Ref_next_41 : decode prog_13_method_12_code 41 = .ok (.iconst 0, 1) := by decide +kernel
theorem zd_Ref_next_42 : decode prog_13_method_12_code 42 = .ok (.ireturn, 1) := by decide +kernel
theorem zd_Ref_next_43 : decode prog_13_method_12_code 43 = .ok (.iconst 1, 1) := by decide +kernel
theorem zd_Ref_next_44 : decode prog_13_method_12_code 44 = .ok (.istore 5, 2) := by decide +kernel
theorem zd_Ref_next_46 : decode prog_13_method_12_code 46 = .ok (.iconst 0, 1) := by decide +kernel
theorem zd_Ref_next_47 : decode prog_13_method_12_code 47 = .ok (.istore 6, 2) := by decide +kernel
theorem zd_Ref_next_49 : decode prog_13_method_12_code 49 = .ok (.iload 6, 2) := by decide +kernel
theorem zd_Ref_next_51 : decode prog_13_method_12_code 51 = .ok (.aload_n 0, 1) := by decide +kernel
theorem zd_Ref_next_52 : decode prog_13_method_12_code 52 = .ok (.getfield 76, 3) := by decide +kernel
theorem zd_Ref_next_55 : decode prog_13_method_12_code 55 = .ok (.if_icmp .ge 74, 3) := by decide +kernel
theorem zd_Ref_next_58 : decode prog_13_method_12_code 58 = .ok (.aload_n 0, 1) := by decide +kernel
theorem zd_Ref_next_59 : decode prog_13_method_12_code 59 = .ok (.getfield 7, 3) := by decide +kernel
theorem zd_Ref_next_62 : decode prog_13_method_12_code 62 = .ok (.iconst 3, 1) := by decide +kernel
theorem zd_Ref_next_63 : decode prog_13_method_12_code 63 = .ok (.iload 6, 2) := by decide +kernel
theorem zd_Ref_next_65 : decode prog_13_method_12_code 65 = .ok (.imul, 1) := by decide +kernel
theorem zd_Ref_next_66 : decode prog_13_method_12_code 66 = .ok (.iload_n 2, 1) := by decide +kernel
theorem zd_Ref_next_67 : decode prog_13_method_12_code 67 = .ok (.iadd, 1) := by decide +kernel
theorem zd_Ref_next_68 : decode prog_13_method_12_code 68 = .ok (.iaload, 1) := by decide +kernel
theorem zd_Ref_next_69 : decode prog_13_method_12_code 69 = .ok (.istore 7, 2) := by decide +kernel
theorem zd_Ref_next_71 : decode prog_13_method_12_code 71 = .ok (.iload 5, 2) := by decide +kernel
theorem zd_Ref_next_73 : decode prog_13_method_12_code 73 = .ok (.ifCond .eq 47, 3) := by decide +kernel
theorem zd_Ref_next_76 : decode prog_13_method_12_code 76 = .ok (.iload_n 1, 1) := by decide +kernel
theorem zd_Ref_next_77 : decode prog_13_method_12_code 77 = .ok (.iload 6, 2) := by decide +kernel
theorem zd_Ref_next_79 : decode prog_13_method_12_code 79 = .ok (.invokestatic 93, 3) := by decide +kernel
theorem zd_Ref_next_82 : decode prog_13_method_12_code 82 = .ok (.ifCond .eq 34, 3) := by decide +kernel
theorem zd_Ref_next_85 : decode prog_13_method_12_code 85 = .ok (.iload 7, 2) := by decide +kernel
theorem zd_Ref_next_87 : decode prog_13_method_12_code 87 = .ok (.aload_n 0, 1) := by decide +kernel
theorem zd_Ref_next_88 : decode prog_13_method_12_code 88 = .ok (.getfield 7, 3) := by decide +kernel
theorem zd_Ref_next_91 : decode prog_13_method_12_code 91 = .ok (.iconst 3, 1) := by decide +kernel
theorem zd_Ref_next_92 : decode prog_13_method_12_code 92 = .ok (.iload_n 3, 1) := by decide +kernel
theorem zd_Ref_next_93 : decode prog_13_method_12_code 93 = .ok (.imul, 1) := by decide +kernel
theorem zd_Ref_next_94 : decode prog_13_method_12_code 94 = .ok (.iload_n 2, 1) := by decide +kernel
theorem zd_Ref_next_95 : decode prog_13_method_12_code 95 = .ok (.iadd, 1) := by decide +kernel
theorem zd_Ref_next_96 : decode prog_13_method_12_code 96 = .ok (.iaload, 1) := by decide +kernel
theorem zd_Ref_next_97 : decode prog_13_method_12_code 97 = .ok (.if_icmp .le 19, 3) := by decide +kernel
theorem zd_Ref_next_100 : decode prog_13_method_12_code 100 = .ok (.iload 7, 2) := by decide +kernel
theorem zd_Ref_next_102 : decode prog_13_method_12_code 102 = .ok (.aload_n 0, 1) := by decide +kernel
theorem zd_Ref_next_103 : decode prog_13_method_12_code 103 = .ok (.getfield 7, 3) := by decide +kernel
theorem zd_Ref_next_106 : decode prog_13_method_12_code 106 = .ok (.iconst 3, 1) := by decide +kernel
theorem zd_Ref_next_107 : decode prog_13_method_12_code 107 = .ok (.iload 4, 2) := by decide +kernel
theorem zd_Ref_next_109 : decode prog_13_method_12_code 109 = .ok (.imul, 1) := by decide +kernel
theorem zd_Ref_next_110 : decode prog_13_method_12_code 110 = .ok (.iload_n 2, 1) := by decide +kernel
theorem zd_Ref_next_111 : decode prog_13_method_12_code 111 = .ok (.iadd, 1) := by decide +kernel
theorem zd_Ref_next_112 : decode prog_13_method_12_code 112 = .ok (.iaload, 1) := by decide +kernel
theorem zd_Ref_next_113 : decode prog_13_method_12_code 113 = .ok (.if_icmp .lt 7, 3) := by decide +kernel
theorem zd_Ref_next_116 : decode prog_13_method_12_code 116 = .ok (.iconst 1, 1) := by decide +kernel
theorem zd_Ref_next_117 : decode prog_13_method_12_code 117 = .ok (.goto 4, 3) := by decide +kernel
theorem zd_Ref_next_120 : decode prog_13_method_12_code 120 = .ok (.iconst 0, 1) := by decide +kernel
theorem zd_Ref_next_121 : decode prog_13_method_12_code 121 = .ok (.istore 5, 2) := by decide +kernel
theorem zd_Ref_next_123 : decode prog_13_method_12_code 123 = .ok (.iinc 6 1, 3) := by decide +kernel
theorem zd_Ref_next_126 : decode prog_13_method_12_code 126 = .ok (.goto (-77), 3) := by decide +kernel
theorem zd_Ref_next_129 : decode prog_13_method_12_code 129 = .ok (.iload 5, 2) := by decide +kernel
theorem zd_Ref_next_131 : decode prog_13_method_12_code 131 = .ok (.ireturn, 1) := by decide +kernel
def zm_Ref_between : zg_M := (⟨"SurrogateTreeModel", "between", "(III)I"⟩, prog_13_method_13_code, 4, (some .int))
theorem zd_Ref_between_0 : decode prog_13_method_13_code 0 = .ok (.aload_n 0, 1) := by decide +kernel
theorem zd_Ref_between_1 : decode prog_13_method_13_code 1 = .ok (.getfield 7, 3) := by decide +kernel
theorem zd_Ref_between_4 : decode prog_13_method_13_code 4 = .ok (.iconst 3, 1) := by decide +kernel
theorem zd_Ref_between_5 : decode prog_13_method_13_code 5 = .ok (.iload_n 2, 1) := by decide +kernel
theorem zd_Ref_between_6 : decode prog_13_method_13_code 6 = .ok (.imul, 1) := by decide +kernel
theorem zd_Ref_between_7 : decode prog_13_method_13_code 7 = .ok (.iload_n 1, 1) := by decide +kernel
theorem zd_Ref_between_8 : decode prog_13_method_13_code 8 = .ok (.iadd, 1) := by decide +kernel
theorem zd_Ref_between_9 : decode prog_13_method_13_code 9 = .ok (.iaload, 1) := by decide +kernel
theorem zd_Ref_between_10 : decode prog_13_method_13_code 10 = .ok (.i2l, 1) := by decide +kernel
theorem zd_Ref_between_11 : decode prog_13_method_13_code 11 = .ok (.aload_n 0, 1) := by decide +kernel
theorem zd_Ref_between_12 : decode prog_13_method_13_code 12 = .ok (.getfield 7, 3) := by decide +kernel
theorem zd_Ref_between_15 : decode prog_13_method_13_code 15 = .ok (.iconst 3, 1) := by decide +kernel
theorem zd_Ref_between_16 : decode prog_13_method_13_code 16 = .ok (.iload_n 3, 1) := by decide +kernel
theorem zd_Ref_between_17 : decode prog_13_method_13_code 17 = .ok (.imul, 1) := by decide +kernel
theorem zd_Ref_between_18 : decode prog_13_method_13_code 18 = .ok (.iload_n 1, 1) := by decide +kernel
theorem zd_Ref_between_19 : decode prog_13_method_13_code 19 = .ok (.iadd, 1) := by decide +kernel
theorem zd_Ref_between_20 : decode prog_13_method_13_code 20 = .ok (.iaload, 1) := by decide +kernel
theorem zd_Ref_between_21 : decode prog_13_method_13_code 21 = .ok (.i2l, 1) := by decide +kernel
theorem zd_Ref_between_22 : decode prog_13_method_13_code 22 = .ok (.ladd, 1) := by decide +kernel
theorem zd_Ref_between_23 : decode prog_13_method_13_code 23 = .ok (.iconst 1, 1) := by decide +kernel
theorem zd_Ref_between_24 : decode prog_13_method_13_code 24 = .ok (.lshr, 1) := by decide +kernel
theorem zd_Ref_between_25 : decode prog_13_method_13_code 25 = .ok (.l2i, 1) := by decide +kernel
theorem zd_Ref_between_26 : decode prog_13_method_13_code 26 = .ok (.ireturn, 1) := by decide +kernel
def zm_Ref_upTo : zg_M := (⟨"SurrogateTreeModel", "upTo", "(III)I"⟩, prog_13_method_11_code, 6, (some .int))
theorem zd_Ref_upTo_0 : decode prog_13_method_11_code 0 = .ok (.iconst 0, 1) := by decide +kernel
theorem zd_Ref_upTo_1 : decode prog_13_method_11_code 1 = .ok (.istore 4, 2) := by decide +kernel
theorem zd_Ref_upTo_3 : decode prog_13_method_11_code 3 = .ok (.iconst 0, 1) := by decide +kernel
theorem zd_Ref_upTo_4 : decode prog_13_method_11_code 4 = .ok (.istore 5, 2) := by decide +kernel
theorem zd_Ref_upTo_6 : decode prog_13_method_11_code 6 = .ok (.iload 5, 2) := by decide +kernel
theorem zd_Ref_upTo_8 : decode prog_13_method_11_code 8 = .ok (.aload_n 0, 1) := by decide +kernel
theorem zd_Ref_upTo_9 : decode prog_13_method_11_code 9 = .ok (.getfield 76, 3) := by decide +kernel
theorem zd_Ref_upTo_12 : decode prog_13_method_11_code 12 = .ok (.if_icmp .ge 47, 3) := by decide +kernel
theorem zd_Ref_upTo_15 : decode prog_13_method_11_code 15 = .ok (.iload_n 1, 1) := by decide +kernel
theorem zd_Ref_upTo_16 : decode prog_13_method_11_code 16 = .ok (.iload 5, 2) := by decide +kernel
theorem zd_Ref_upTo_18 : decode prog_13_method_11_code 18 = .ok (.invokestatic 93, 3) := by decide +kernel
theorem zd_Ref_upTo_21 : decode prog_13_method_11_code 21 = .ok (.ifCond .eq 28, 3) := by decide +kernel
theorem zd_Ref_upTo_24 : decode prog_13_method_11_code 24 = .ok (.aload_n 0, 1) := by decide +kernel
theorem zd_Ref_upTo_25 : decode prog_13_method_11_code 25 = .ok (.getfield 7, 3) := by decide +kernel
theorem zd_Ref_upTo_28 : decode prog_13_method_11_code 28 = .ok (.iconst 3, 1) := by decide +kernel
theorem zd_Ref_upTo_29 : decode prog_13_method_11_code 29 = .ok (.iload 5, 2) := by decide +kernel
theorem zd_Ref_upTo_31 : decode prog_13_method_11_code 31 = .ok (.imul, 1) := by decide +kernel
theorem zd_Ref_upTo_32 : decode prog_13_method_11_code 32 = .ok (.iload_n 2, 1) := by decide +kernel
theorem zd_Ref_upTo_33 : decode prog_13_method_11_code 33 = .ok (.iadd, 1) := by decide +kernel
theorem zd_Ref_upTo_34 : decode prog_13_method_11_code 34 = .ok (.iaload, 1) := by decide +kernel
theorem zd_Ref_upTo_35 : decode prog_13_method_11_code 35 = .ok (.iload_n 3, 1) := by decide +kernel
theorem zd_Ref_upTo_36 : decode prog_13_method_11_code 36 = .ok (.if_icmp .gt 13, 3) := by decide +kernel
theorem zd_Ref_upTo_39 : decode prog_13_method_11_code 39 = .ok (.iload 4, 2) := by decide +kernel
theorem zd_Ref_upTo_41 : decode prog_13_method_11_code 41 = .ok (.iconst 1, 1) := by decide +kernel
theorem zd_Ref_upTo_42 : decode prog_13_method_11_code 42 = .ok (.iload 5, 2) := by decide +kernel
theorem zd_Ref_upTo_44 : decode prog_13_method_11_code 44 = .ok (.ishl, 1) := by decide +kernel
theorem zd_Ref_upTo_45 : decode prog_13_method_11_code 45 = .ok (.ior, 1) := by decide +kernel
theorem zd_Ref_upTo_46 : decode prog_13_method_11_code 46 = .ok (.goto 5, 3) := by decide +kernel
theorem zd_Ref_upTo_49 : decode prog_13_method_11_code 49 = .ok (.iload 4, 2) := by decide +kernel
theorem zd_Ref_upTo_51 : decode prog_13_method_11_code 51 = .ok (.istore 4, 2) := by decide +kernel
theorem zd_Ref_upTo_53 : decode prog_13_method_11_code 53 = .ok (.iinc 5 1, 3) := by decide +kernel
theorem zd_Ref_upTo_56 : decode prog_13_method_11_code 56 = .ok (.goto (-50), 3) := by decide +kernel
theorem zd_Ref_upTo_59 : decode prog_13_method_11_code 59 = .ok (.iload 4, 2) := by decide +kernel
theorem zd_Ref_upTo_61 : decode prog_13_method_11_code 61 = .ok (.ireturn, 1) := by decide +kernel
def zm_Ref_weigh : zg_M := (⟨"SurrogateTreeModel", "weigh", "(II)I"⟩, prog_13_method_9_code, 5, (some .int))
theorem zd_Ref_weigh_0 : decode prog_13_method_9_code 0 = .ok (.iconst 0, 1) := by decide +kernel
theorem zd_Ref_weigh_1 : decode prog_13_method_9_code 1 = .ok (.istore_n 3, 1) := by decide +kernel
theorem zd_Ref_weigh_2 : decode prog_13_method_9_code 2 = .ok (.iconst 0, 1) := by decide +kernel
theorem zd_Ref_weigh_3 : decode prog_13_method_9_code 3 = .ok (.istore 4, 2) := by decide +kernel
theorem zd_Ref_weigh_5 : decode prog_13_method_9_code 5 = .ok (.iload 4, 2) := by decide +kernel
theorem zd_Ref_weigh_7 : decode prog_13_method_9_code 7 = .ok (.aload_n 0, 1) := by decide +kernel
theorem zd_Ref_weigh_8 : decode prog_13_method_9_code 8 = .ok (.getfield 76, 3) := by decide +kernel
theorem zd_Ref_weigh_11 : decode prog_13_method_9_code 11 = .ok (.if_icmp .ge 47, 3) := by decide +kernel
theorem zd_Ref_weigh_14 : decode prog_13_method_9_code 14 = .ok (.iload_n 1, 1) := by decide +kernel
theorem zd_Ref_weigh_15 : decode prog_13_method_9_code 15 = .ok (.iload 4, 2) := by decide +kernel
theorem zd_Ref_weigh_17 : decode prog_13_method_9_code 17 = .ok (.invokestatic 93, 3) := by decide +kernel
theorem zd_Ref_weigh_20 : decode prog_13_method_9_code 20 = .ok (.ifCond .eq 30, 3) := by decide +kernel
theorem zd_Ref_weigh_23 : decode prog_13_method_9_code 23 = .ok (.iload_n 2, 1) := by decide +kernel
theorem zd_Ref_weigh_24 : decode prog_13_method_9_code 24 = .ok (.ifCond .lt 14, 3) := by decide +kernel
theorem zd_Ref_weigh_27 : decode prog_13_method_9_code 27 = .ok (.aload_n 0, 1) := by decide +kernel
theorem zd_Ref_weigh_28 : decode prog_13_method_9_code 28 = .ok (.getfield 13, 3) := by decide +kernel
theorem zd_Ref_weigh_31 : decode prog_13_method_9_code 31 = .ok (.iload 4, 2) := by decide +kernel
theorem zd_Ref_weigh_33 : decode prog_13_method_9_code 33 = .ok (.iaload, 1) := by decide +kernel
theorem zd_Ref_weigh_34 : decode prog_13_method_9_code 34 = .ok (.iload_n 2, 1) := by decide +kernel
theorem zd_Ref_weigh_35 : decode prog_13_method_9_code 35 = .ok (.if_icmp .ne 15, 3) := by decide +kernel
theorem zd_Ref_weigh_38 : decode prog_13_method_9_code 38 = .ok (.iload_n 3, 1) := by decide +kernel
theorem zd_Ref_weigh_39 : decode prog_13_method_9_code 39 = .ok (.aload_n 0, 1) := by decide +kernel
theorem zd_Ref_weigh_40 : decode prog_13_method_9_code 40 = .ok (.getfield 16, 3) := by decide +kernel
theorem zd_Ref_weigh_43 : decode prog_13_method_9_code 43 = .ok (.iload 4, 2) := by decide +kernel
theorem zd_Ref_weigh_45 : decode prog_13_method_9_code 45 = .ok (.iaload, 1) := by decide +kernel
theorem zd_Ref_weigh_46 : decode prog_13_method_9_code 46 = .ok (.iadd, 1) := by decide +kernel
theorem zd_Ref_weigh_47 : decode prog_13_method_9_code 47 = .ok (.goto 4, 3) := by decide +kernel
theorem zd_Ref_weigh_50 : decode prog_13_method_9_code 50 = .ok (.iload_n 3, 1) := by decide +kernel
theorem zd_Ref_weigh_51 : decode prog_13_method_9_code 51 = .ok (.istore_n 3, 1) := by decide +kernel
theorem zd_Ref_weigh_52 : decode prog_13_method_9_code 52 = .ok (.iinc 4 1, 3) := by decide +kernel
theorem zd_Ref_weigh_55 : decode prog_13_method_9_code 55 = .ok (.goto (-50), 3) := by decide +kernel
theorem zd_Ref_weigh_58 : decode prog_13_method_9_code 58 = .ok (.iload_n 3, 1) := by decide +kernel
theorem zd_Ref_weigh_59 : decode prog_13_method_9_code 59 = .ok (.ireturn, 1) := by decide +kernel
def zm_Ref_gainOf : zg_M := (⟨"SurrogateTreeModel", "gainOf", "(II)V"⟩, prog_13_method_17_code, 10, none)
theorem zd_Ref_gainOf_0 : decode prog_13_method_17_code 0 = .ok (.aload_n 0, 1) := by decide +kernel
theorem zd_Ref_gainOf_1 : decode prog_13_method_17_code 1 = .ok (.iload_n 1, 1) := by decide +kernel
theorem zd_Ref_gainOf_2 : decode prog_13_method_17_code 2 = .ok (.iconst (-1), 1) := by decide +kernel
theorem zd_Ref_gainOf_3 : decode prog_13_method_17_code 3 = .ok (.invokevirtual 98, 3) := by decide +kernel
theorem zd_Ref_gainOf_6 : decode prog_13_method_17_code 6 = .ok (.istore_n 3, 1) := by decide +kernel
theorem zd_Ref_gainOf_7 : decode prog_13_method_17_code 7 = .ok (.aload_n 0, 1) := by decide +kernel
theorem zd_Ref_gainOf_8 : decode prog_13_method_17_code 8 = .ok (.iload_n 2, 1) := by decide +kernel
theorem zd_Ref_gainOf_9 : decode prog_13_method_17_code 9 = .ok (.iconst (-1), 1) := by decide +kernel
theorem zd_Ref_gainOf_10 : decode prog_13_method_17_code 10 = .ok (.invokevirtual 98, 3) := by decide +kernel
theorem zd_Ref_gainOf_13 : decode prog_13_method_17_code 13 = .ok (.istore 4, 2) := by decide +kernel
theorem zd_Ref_gainOf_15 : decode prog_13_method_17_code 15 = .ok (.aload_n 0, 1) := by decide +kernel
theorem zd_Ref_gainOf_16 : decode prog_13_method_17_code 16 = .ok (.getfield 86, 3) := by decide +kernel
theorem zd_Ref_gainOf_19 : decode prog_13_method_17_code 19 = .ok (.iconst 1, 1) := by decide +kernel
theorem zd_Ref_gainOf_20 : decode prog_13_method_17_code 20 = .ok (.if_icmp .ne 32, 3) := by decide +kernel
theorem zd_Ref_gainOf_23 : decode prog_13_method_17_code 23 = .ok (.aload_n 0, 1) := by decide +kernel
theorem zd_Ref_gainOf_24 : decode prog_13_method_17_code 24 = .ok (.aload_n 0, 1) := by decide +kernel
theorem zd_Ref_gainOf_25 : decode prog_13_method_17_code 25 = .ok (.iload_n 1, 1) := by decide +kernel
theorem zd_Ref_gainOf_26 : decode prog_13_method_17_code 26 = .ok (.invokevirtual 106, 3) := by decide +kernel
theorem zd_Ref_gainOf_29 : decode prog_13_method_17_code 29 = .ok (.aload_n 0, 1) := by decide +kernel
theorem zd_Ref_gainOf_30 : decode prog_13_method_17_code 30 = .ok (.iload_n 2, 1) := by decide +kernel
theorem zd_Ref_gainOf_31 : decode prog_13_method_17_code 31 = .ok (.invokevirtual 106, 3) := by decide +kernel
theorem zd_Ref_gainOf_34 : decode prog_13_method_17_code 34 = .ok (.iadd, 1) := by decide +kernel
theorem zd_Ref_gainOf_35 : decode prog_13_method_17_code 35 = .ok (.aload_n 0, 1) := by decide +kernel
theorem zd_Ref_gainOf_36 : decode prog_13_method_17_code 36 = .ok (.iload_n 1, 1) := by decide +kernel
theorem zd_Ref_gainOf_37 : decode prog_13_method_17_code 37 = .ok (.iload_n 2, 1) := by decide +kernel
theorem zd_Ref_gainOf_38 : decode prog_13_method_17_code 38 = .ok (.ior, 1) := by decide +kernel
theorem zd_Ref_gainOf_39 : decode prog_13_method_17_code 39 = .ok (.invokevirtual 106, 3) := by decide +kernel
theorem zd_Ref_gainOf_42 : decode prog_13_method_17_code 42 = .ok (.isub, 1) := by decide +kernel
theorem zd_Ref_gainOf_43 : decode prog_13_method_17_code 43 = .ok (.putfield 109, 3) := by decide +kernel
theorem zd_Ref_gainOf_46 : decode prog_13_method_17_code 46 = .ok (.aload_n 0, 1) := by decide +kernel
theorem zd_Ref_gainOf_47 : decode prog_13_method_17_code 47 = .ok (.iconst 1, 1) := by decide +kernel
theorem zd_Ref_gainOf_48 : decode prog_13_method_17_code 48 = .ok (.putfield 112, 3) := by decide +kernel
theorem zd_Ref_gainOf_51 : decode prog_13_method_17_code 51 = .ok (.return_, 1) := by decide +kernel
theorem zd_Ref_gainOf_52 : decode prog_13_method_17_code 52 = .ok (.aload_n 0, 1) := by decide +kernel
theorem zd_Ref_gainOf_53 : decode prog_13_method_17_code 53 = .ok (.iconst 0, 1) := by decide +kernel
theorem zd_Ref_gainOf_54 : decode prog_13_method_17_code 54 = .ok (.putfield 109, 3) := by decide +kernel
theorem zd_Ref_gainOf_57 : decode prog_13_method_17_code 57 = .ok (.aload_n 0, 1) := by decide +kernel
theorem zd_Ref_gainOf_58 : decode prog_13_method_17_code 58 = .ok (.iload_n 3, 1) := by decide +kernel
theorem zd_Ref_gainOf_59 : decode prog_13_method_17_code 59 = .ok (.iload 4, 2) := by decide +kernel
theorem zd_Ref_gainOf_61 : decode prog_13_method_17_code 61 = .ok (.iadd, 1) := by decide +kernel
theorem zd_Ref_gainOf_62 : decode prog_13_method_17_code 62 = .ok (.iload_n 3, 1) := by decide +kernel
theorem zd_Ref_gainOf_63 : decode prog_13_method_17_code 63 = .ok (.imul, 1) := by decide +kernel
theorem zd_Ref_gainOf_64 : decode prog_13_method_17_code 64 = .ok (.iload 4, 2) := by decide +kernel
theorem zd_Ref_gainOf_66 : decode prog_13_method_17_code 66 = .ok (.imul, 1) := by decide +kernel
theorem zd_Ref_gainOf_67 : decode prog_13_method_17_code 67 = .ok (.putfield 112, 3) := by decide +kernel
theorem zd_Ref_gainOf_70 : decode prog_13_method_17_code 70 = .ok (.iconst 0, 1) := by decide +kernel
theorem zd_Ref_gainOf_71 : decode prog_13_method_17_code 71 = .ok (.istore 5, 2) := by decide +kernel
theorem zd_Ref_gainOf_73 : decode prog_13_method_17_code 73 = .ok (.iconst 0, 1) := by decide +kernel
theorem zd_Ref_gainOf_74 : decode prog_13_method_17_code 74 = .ok (.istore 6, 2) := by decide +kernel
theorem zd_Ref_gainOf_76 : decode prog_13_method_17_code 76 = .ok (.iload 6, 2) := by decide +kernel
theorem zd_Ref_gainOf_78 : decode prog_13_method_17_code 78 = .ok (.iconst 4, 1) := by decide +kernel
theorem zd_Ref_gainOf_79 : decode prog_13_method_17_code 79 = .ok (.if_icmp .ge 119, 3) := by decide +kernel
theorem zd_Ref_gainOf_82 : decode prog_13_method_17_code 82 = .ok (.aload_n 0, 1) := by decide +kernel
theorem zd_Ref_gainOf_83 : decode prog_13_method_17_code 83 = .ok (.iload_n 1, 1) := by decide +kernel
theorem zd_Ref_gainOf_84 : decode prog_13_method_17_code 84 = .ok (.iload 6, 2) := by decide +kernel
theorem zd_Ref_gainOf_86 : decode prog_13_method_17_code 86 = .ok (.invokevirtual 98, 3) := by decide +kernel
theorem zd_Ref_gainOf_89 : decode prog_13_method_17_code 89 = .ok (.istore 7, 2) := by decide +kernel
theorem zd_Ref_gainOf_91 : decode prog_13_method_17_code 91 = .ok (.aload_n 0, 1) := by decide +kernel
theorem zd_Ref_gainOf_92 : decode prog_13_method_17_code 92 = .ok (.iload_n 2, 1) := by decide +kernel
theorem zd_Ref_gainOf_93 : decode prog_13_method_17_code 93 = .ok (.iload 6, 2) := by decide +kernel
theorem zd_Ref_gainOf_95 : decode prog_13_method_17_code 95 = .ok (.invokevirtual 98, 3) := by decide +kernel
theorem zd_Ref_gainOf_98 : decode prog_13_method_17_code 98 = .ok (.istore 8, 2) := by decide +kernel
theorem zd_Ref_gainOf_100 : decode prog_13_method_17_code 100 = .ok (.aload_n 0, 1) := by decide +kernel
theorem zd_Ref_gainOf_101 : decode prog_13_method_17_code 101 = .ok (.getfield 86, 3) := by decide +kernel
theorem zd_Ref_gainOf_104 : decode prog_13_method_17_code 104 = .ok (.ifCond .ne 58, 3) := by decide +kernel
theorem zd_Ref_gainOf_107 : decode prog_13_method_17_code 107 = .ok (.aload_n 0, 1) := by decide +kernel
theorem zd_Ref_gainOf_108 : decode prog_13_method_17_code 108 = .ok (.dup, 1) := by decide +kernel
theorem zd_Ref_gainOf_109 : decode prog_13_method_17_code 109 = .ok (.getfield 109, 3) := by decide +kernel
theorem zd_Ref_gainOf_112 : decode prog_13_method_17_code 112 = .ok (.iload 7, 2) := by decide +kernel
theorem zd_Ref_gainOf_114 : decode prog_13_method_17_code 114 = .ok (.iload 7, 2) := by decide +kernel
theorem zd_Ref_gainOf_116 : decode prog_13_method_17_code 116 = .ok (.imul, 1) := by decide +kernel
theorem zd_Ref_gainOf_117 : decode prog_13_method_17_code 117 = .ok (.iload_n 3, 1) := by decide +kernel
theorem zd_Ref_gainOf_118 : decode prog_13_method_17_code 118 = .ok (.iload 4, 2) := by decide +kernel
theorem zd_Ref_gainOf_120 : decode prog_13_method_17_code 120 = .ok (.iadd, 1) := by decide +kernel
theorem zd_Ref_gainOf_121 : decode prog_13_method_17_code 121 = .ok (.imul, 1) := by decide +kernel
theorem zd_Ref_gainOf_122 : decode prog_13_method_17_code 122 = .ok (.iload 4, 2) := by decide +kernel
theorem zd_Ref_gainOf_124 : decode prog_13_method_17_code 124 = .ok (.imul, 1) := by decide +kernel
theorem zd_Ref_gainOf_125 : decode prog_13_method_17_code 125 = .ok (.iload 8, 2) := by decide +kernel
theorem zd_Ref_gainOf_127 : decode prog_13_method_17_code 127 = .ok (.iload 8, 2) := by decide +kernel
theorem zd_Ref_gainOf_129 : decode prog_13_method_17_code 129 = .ok (.imul, 1) := by decide +kernel
theorem zd_Ref_gainOf_130 : decode prog_13_method_17_code 130 = .ok (.iload_n 3, 1) := by decide +kernel
theorem zd_Ref_gainOf_131 : decode prog_13_method_17_code 131 = .ok (.iload 4, 2) := by decide +kernel
theorem zd_Ref_gainOf_133 : decode prog_13_method_17_code 133 = .ok (.iadd, 1) := by decide +kernel
theorem zd_Ref_gainOf_134 : decode prog_13_method_17_code 134 = .ok (.imul, 1) := by decide +kernel
theorem zd_Ref_gainOf_135 : decode prog_13_method_17_code 135 = .ok (.iload_n 3, 1) := by decide +kernel
theorem zd_Ref_gainOf_136 : decode prog_13_method_17_code 136 = .ok (.imul, 1) := by decide +kernel
theorem zd_Ref_gainOf_137 : decode prog_13_method_17_code 137 = .ok (.iadd, 1) := by decide +kernel
theorem zd_Ref_gainOf_138 : decode prog_13_method_17_code 138 = .ok (.iload 7, 2) := by decide +kernel
theorem zd_Ref_gainOf_140 : decode prog_13_method_17_code 140 = .ok (.iload 8, 2) := by decide +kernel
theorem zd_Ref_gainOf_142 : decode prog_13_method_17_code 142 = .ok (.iadd, 1) := by decide +kernel
theorem zd_Ref_gainOf_143 : decode prog_13_method_17_code 143 = .ok (.iload 7, 2) := by decide +kernel
theorem zd_Ref_gainOf_145 : decode prog_13_method_17_code 145 = .ok (.iload 8, 2) := by decide +kernel
theorem zd_Ref_gainOf_147 : decode prog_13_method_17_code 147 = .ok (.iadd, 1) := by decide +kernel
theorem zd_Ref_gainOf_148 : decode prog_13_method_17_code 148 = .ok (.imul, 1) := by decide +kernel
theorem zd_Ref_gainOf_149 : decode prog_13_method_17_code 149 = .ok (.iload_n 3, 1) := by decide +kernel
theorem zd_Ref_gainOf_150 : decode prog_13_method_17_code 150 = .ok (.imul, 1) := by decide +kernel
theorem zd_Ref_gainOf_151 : decode prog_13_method_17_code 151 = .ok (.iload 4, 2) := by decide +kernel
theorem zd_Ref_gainOf_153 : decode prog_13_method_17_code 153 = .ok (.imul, 1) := by decide +kernel
theorem zd_Ref_gainOf_154 : decode prog_13_method_17_code 154 = .ok (.isub, 1) := by decide +kernel
theorem zd_Ref_gainOf_155 : decode prog_13_method_17_code 155 = .ok (.iadd, 1) := by decide +kernel
theorem zd_Ref_gainOf_156 : decode prog_13_method_17_code 156 = .ok (.putfield 109, 3) := by decide +kernel
theorem zd_Ref_gainOf_159 : decode prog_13_method_17_code 159 = .ok (.goto 33, 3) := by decide +kernel
theorem zd_Ref_gainOf_162 : decode prog_13_method_17_code 162 = .ok (.iload 7, 2) := by decide +kernel
theorem zd_Ref_gainOf_164 : decode prog_13_method_17_code 164 = .ok (.iload 4, 2) := by decide +kernel
theorem zd_Ref_gainOf_166 : decode prog_13_method_17_code 166 = .ok (.imul, 1) := by decide +kernel
theorem zd_Ref_gainOf_167 : decode prog_13_method_17_code 167 = .ok (.iload 8, 2) := by decide +kernel
theorem zd_Ref_gainOf_169 : decode prog_13_method_17_code 169 = .ok (.iload_n 3, 1) := by decide +kernel
theorem zd_Ref_gainOf_170 : decode prog_13_method_17_code 170 = .ok (.imul, 1) := by decide +kernel
theorem zd_Ref_gainOf_171 : decode prog_13_method_17_code 171 = .ok (.isub, 1) := by decide +kernel
theorem zd_Ref_gainOf_172 : decode prog_13_method_17_code 172 = .ok (.istore 9, 2) := by decide +kernel
theorem zd_Ref_gainOf_174 : decode prog_13_method_17_code 174 = .ok (.iload 5, 2) := by decide +kernel
theorem zd_Ref_gainOf_176 : decode prog_13_method_17_code 176 = .ok (.iload 9, 2) := by decide +kernel
theorem zd_Ref_gainOf_178 : decode prog_13_method_17_code 178 = .ok (.ifCond .ge 9, 3) := by decide +kernel
theorem zd_Ref_gainOf_181 : decode prog_13_method_17_code 181 = .ok (.iload 9, 2) := by decide +kernel
theorem zd_Ref_gainOf_183 : decode prog_13_method_17_code 183 = .ok (.ineg, 1) := by decide +kernel
theorem zd_Ref_gainOf_184 : decode prog_13_method_17_code 184 = .ok (.goto 5, 3) := by decide +kernel
theorem zd_Ref_gainOf_187 : decode prog_13_method_17_code 187 = .ok (.iload 9, 2) := by decide +kernel
theorem zd_Ref_gainOf_189 : decode prog_13_method_17_code 189 = .ok (.iadd, 1) := by decide +kernel
theorem zd_Ref_gainOf_190 : decode prog_13_method_17_code 190 = .ok (.istore 5, 2) := by decide +kernel
theorem zd_Ref_gainOf_192 : decode prog_13_method_17_code 192 = .ok (.iinc 6 1, 3) := by decide +kernel
theorem zd_Ref_gainOf_195 : decode prog_13_method_17_code 195 = .ok (.goto (-119), 3) := by decide +kernel
theorem zd_Ref_gainOf_198 : decode prog_13_method_17_code 198 = .ok (.aload_n 0, 1) := by decide +kernel
theorem zd_Ref_gainOf_199 : decode prog_13_method_17_code 199 = .ok (.aload_n 0, 1) := by decide +kernel
theorem zd_Ref_gainOf_200 : decode prog_13_method_17_code 200 = .ok (.getfield 86, 3) := by decide +kernel
theorem zd_Ref_gainOf_203 : decode prog_13_method_17_code 203 = .ok (.ifCond .ne 10, 3) := by decide +kernel
theorem zd_Ref_gainOf_206 : decode prog_13_method_17_code 206 = .ok (.aload_n 0, 1) := by decide +kernel
theorem zd_Ref_gainOf_207 : decode prog_13_method_17_code 207 = .ok (.getfield 109, 3) := by decide +kernel
theorem zd_Ref_gainOf_210 : decode prog_13_method_17_code 210 = .ok (.goto 8, 3) := by decide +kernel
theorem zd_Ref_gainOf_213 : decode prog_13_method_17_code 213 = .ok (.iload 5, 2) := by decide +kernel
theorem zd_Ref_gainOf_215 : decode prog_13_method_17_code 215 = .ok (.iload 5, 2) := by decide +kernel
theorem zd_Ref_gainOf_217 : decode prog_13_method_17_code 217 = .ok (.imul, 1) := by decide +kernel
theorem zd_Ref_gainOf_218 : decode prog_13_method_17_code 218 = .ok (.putfield 109, 3) := by decide +kernel
theorem zd_Ref_gainOf_221 : decode prog_13_method_17_code 221 = .ok (.return_, 1) := by decide +kernel
def zm_Ref_greatest : zg_M := (⟨"SurrogateTreeModel", "greatest", "(I)I"⟩, prog_13_method_16_code, 2, (some .int))
theorem zd_Ref_greatest_0 : decode prog_13_method_16_code 0 = .ok (.aload_n 0, 1) := by decide +kernel
theorem zd_Ref_greatest_1 : decode prog_13_method_16_code 1 = .ok (.iload_n 1, 1) := by decide +kernel
theorem zd_Ref_greatest_2 : decode prog_13_method_16_code 2 = .ok (.aload_n 0, 1) := by decide +kernel
theorem zd_Ref_greatest_3 : decode prog_13_method_16_code 3 = .ok (.iload_n 1, 1) := by decide +kernel
theorem zd_Ref_greatest_4 : decode prog_13_method_16_code 4 = .ok (.invokevirtual 102, 3) := by decide +kernel
theorem zd_Ref_greatest_7 : decode prog_13_method_16_code 7 = .ok (.invokevirtual 98, 3) := by decide +kernel
theorem zd_Ref_greatest_10 : decode prog_13_method_16_code 10 = .ok (.ireturn, 1) := by decide +kernel
def zm_Ref_classIn : zg_M := (⟨"SurrogateTreeModel", "classIn", "(I)I"⟩, prog_13_method_14_code, 4, (some .int))
theorem zd_Ref_classIn_0 : decode prog_13_method_14_code 0 = .ok (.iconst 0, 1) := by decide +kernel
theorem zd_Ref_classIn_1 : decode prog_13_method_14_code 1 = .ok (.istore_n 2, 1) := by decide +kernel
theorem zd_Ref_classIn_2 : decode prog_13_method_14_code 2 = .ok (.iconst 1, 1) := by decide +kernel
theorem zd_Ref_classIn_3 : decode prog_13_method_14_code 3 = .ok (.istore_n 3, 1) := by decide +kernel
theorem zd_Ref_classIn_4 : decode prog_13_method_14_code 4 = .ok (.iload_n 3, 1) := by decide +kernel
theorem zd_Ref_classIn_5 : decode prog_13_method_14_code 5 = .ok (.iconst 4, 1) := by decide +kernel
theorem zd_Ref_classIn_6 : decode prog_13_method_14_code 6 = .ok (.if_icmp .ge 30, 3) := by decide +kernel
theorem zd_Ref_classIn_9 : decode prog_13_method_14_code 9 = .ok (.aload_n 0, 1) := by decide +kernel
theorem zd_Ref_classIn_10 : decode prog_13_method_14_code 10 = .ok (.iload_n 1, 1) := by decide +kernel
theorem zd_Ref_classIn_11 : decode prog_13_method_14_code 11 = .ok (.iload_n 3, 1) := by decide +kernel
theorem zd_Ref_classIn_12 : decode prog_13_method_14_code 12 = .ok (.invokevirtual 98, 3) := by decide +kernel
theorem zd_Ref_classIn_15 : decode prog_13_method_14_code 15 = .ok (.aload_n 0, 1) := by decide +kernel
theorem zd_Ref_classIn_16 : decode prog_13_method_14_code 16 = .ok (.iload_n 1, 1) := by decide +kernel
theorem zd_Ref_classIn_17 : decode prog_13_method_14_code 17 = .ok (.iload_n 2, 1) := by decide +kernel
theorem zd_Ref_classIn_18 : decode prog_13_method_14_code 18 = .ok (.invokevirtual 98, 3) := by decide +kernel
theorem zd_Ref_classIn_21 : decode prog_13_method_14_code 21 = .ok (.if_icmp .le 7, 3) := by decide +kernel
theorem zd_Ref_classIn_24 : decode prog_13_method_14_code 24 = .ok (.iload_n 3, 1) := by decide +kernel
theorem zd_Ref_classIn_25 : decode prog_13_method_14_code 25 = .ok (.goto 4, 3) := by decide +kernel
theorem zd_Ref_classIn_28 : decode prog_13_method_14_code 28 = .ok (.iload_n 2, 1) := by decide +kernel
theorem zd_Ref_classIn_29 : decode prog_13_method_14_code 29 = .ok (.istore_n 2, 1) := by decide +kernel
theorem zd_Ref_classIn_30 : decode prog_13_method_14_code 30 = .ok (.iinc 3 1, 3) := by decide +kernel
theorem zd_Ref_classIn_33 : decode prog_13_method_14_code 33 = .ok (.goto (-29), 3) := by decide +kernel
theorem zd_Ref_classIn_36 : decode prog_13_method_14_code 36 = .ok (.iload_n 2, 1) := by decide +kernel
theorem zd_Ref_classIn_37 : decode prog_13_method_14_code 37 = .ok (.ireturn, 1) := by decide +kernel
def zm_Ref_goes : zg_M := (⟨"SurrogateTreeModel", "goes", "(IIII)I"⟩, prog_13_method_22_code, 11, (some .int))
theorem zd_Ref_goes_0 : decode prog_13_method_22_code 0 = .ok (.aload_n 0, 1) := by decide +kernel
theorem zd_Ref_goes_1 : decode prog_13_method_22_code 1 = .ok (.getfield 35, 3) := by decide +kernel
theorem zd_Ref_goes_4 : decode prog_13_method_22_code 4 = .ok (.iload_n 1, 1) := by decide +kernel
theorem zd_Ref_goes_5 : decode prog_13_method_22_code 5 = .ok (.iaload, 1) := by decide +kernel
theorem zd_Ref_goes_6 : decode prog_13_method_22_code 6 = .ok (.istore 5, 2) := by decide +kernel
theorem zd_Ref_goes_8 : decode prog_13_method_22_code 8 = .ok (.iload 5, 2) := by decide +kernel
theorem zd_Ref_goes_10 : decode prog_13_method_22_code 10 = .ok (.ifCond .ne 7, 3) := by decide +kernel
theorem zd_Ref_goes_13 : decode prog_13_method_22_code 13 = .ok (.iload_n 2, 1) := by decide +kernel
theorem zd_Ref_goes_14 : decode prog_13_method_22_code 14 = .ok (.goto 15, 3) := by decide +kernel
theorem zd_Ref_goes_17 : decode prog_13_method_22_code 17 = .ok (.iload 5, 2) := by decide +kernel
theorem zd_Ref_goes_19 : decode prog_13_method_22_code 19 = .ok (.iconst 1, 1) := by decide +kernel
theorem zd_Ref_goes_20 : decode prog_13_method_22_code 20 = .ok (.if_icmp .ne 7, 3) := by decide +kernel
theorem zd_Ref_goes_23 : decode prog_13_method_22_code 23 = .ok (.iload_n 3, 1) := by decide +kernel
theorem zd_Ref_goes_24 : decode prog_13_method_22_code 24 = .ok (.goto 5, 3) := by decide +kernel
theorem zd_Ref_goes_27 : decode prog_13_method_22_code 27 = .ok (.iload 4, 2) := by decide +kernel
theorem zd_Ref_goes_29 : decode prog_13_method_22_code 29 = .ok (.istore 6, 2) := by decide +kernel
theorem zd_Ref_goes_31 : decode prog_13_method_22_code 31 = .ok (.iload 6, 2) := by decide +kernel
theorem zd_Ref_goes_33 : decode prog_13_method_22_code 33 = .ok (.ldc 97, 2) := by decide +kernel
theorem zd_Ref_goes_35 : decode prog_13_method_22_code 35 = .ok (.if_icmp .eq 26, 3) := by decide +kernel
theorem zd_Ref_goes_38 : decode prog_13_method_22_code 38 = .ok (.iload 6, 2) := by decide +kernel
theorem zd_Ref_goes_40 : decode prog_13_method_22_code 40 = .ok (.aload_n 0, 1) := by decide +kernel
theorem zd_Ref_goes_41 : decode prog_13_method_22_code 41 = .ok (.getfield 38, 3) := by decide +kernel
theorem zd_Ref_goes_44 : decode prog_13_method_22_code 44 = .ok (.iload_n 1, 1) := by decide +kernel
theorem zd_Ref_goes_45 : decode prog_13_method_22_code 45 = .ok (.iaload, 1) := by decide +kernel
theorem zd_Ref_goes_46 : decode prog_13_method_22_code 46 = .ok (.if_icmp .gt 9, 3) := by decide +kernel
theorem zd_Ref_goes_49 : decode prog_13_method_22_code 49 = .ok (.iconst 2, 1) := by decide +kernel
theorem zd_Ref_goes_50 : decode prog_13_method_22_code 50 = .ok (.iload_n 1, 1) := by decide +kernel
theorem zd_Ref_goes_51 : decode prog_13_method_22_code 51 = .ok (.imul, 1) := by decide +kernel
theorem zd_Ref_goes_52 : decode prog_13_method_22_code 52 = .ok (.goto 8, 3) := by decide +kernel
theorem zd_Ref_goes_55 : decode prog_13_method_22_code 55 = .ok (.iconst 2, 1) := by decide +kernel
theorem zd_Ref_goes_56 : decode prog_13_method_22_code 56 = .ok (.iload_n 1, 1) := by decide +kernel
theorem zd_Ref_goes_57 : decode prog_13_method_22_code 57 = .ok (.imul, 1) := by decide +kernel
theorem zd_Ref_goes_58 : decode prog_13_method_22_code 58 = .ok (.iconst 1, 1) := by decide +kernel
theorem zd_Ref_goes_59 : decode prog_13_method_22_code 59 = .ok (.iadd, 1) := by decide +kernel
theorem zd_Ref_goes_60 : decode prog_13_method_22_code 60 = .ok (.ireturn, 1) := by decide +kernel
theorem zd_Ref_goes_61 : decode prog_13_method_22_code 61 = .ok (.aload_n 0, 1) := by decide +kernel
theorem zd_Ref_goes_62 : decode prog_13_method_22_code 62 = .ok (.iload_n 1, 1) := by decide +kernel
theorem zd_Ref_goes_63 : decode prog_13_method_22_code 63 = .ok (.invokevirtual 158, 3) := by decide +kernel
theorem zd_Ref_goes_66 : decode prog_13_method_22_code 66 = .ok (.iconst 0, 1) := by decide +kernel
theorem zd_Ref_goes_67 : decode prog_13_method_22_code 67 = .ok (.istore 7, 2) := by decide +kernel
theorem zd_Ref_goes_69 : decode prog_13_method_22_code 69 = .ok (.iload 7, 2) := by decide +kernel
theorem zd_Ref_goes_71 : decode prog_13_method_22_code 71 = .ok (.aload_n 0, 1) := by decide +kernel
theorem zd_Ref_goes_72 : decode prog_13_method_22_code 72 = .ok (.getfield 152, 3) := by decide +kernel
theorem zd_Ref_goes_75 : decode prog_13_method_22_code 75 = .ok (.if_icmp .ge 108, 3) := by decide +kernel
theorem zd_Ref_goes_78 : decode prog_13_method_22_code 78 = .ok (.aload_n 0, 1) := by decide +kernel
theorem zd_Ref_goes_79 : decode prog_13_method_22_code 79 = .ok (.getfield 41, 3) := by decide +kernel
theorem zd_Ref_goes_82 : decode prog_13_method_22_code 82 = .ok (.iload 7, 2) := by decide +kernel
theorem zd_Ref_goes_84 : decode prog_13_method_22_code 84 = .ok (.iaload, 1) := by decide +kernel
theorem zd_Ref_goes_85 : decode prog_13_method_22_code 85 = .ok (.istore 8, 2) := by decide +kernel
theorem zd_Ref_goes_87 : decode prog_13_method_22_code 87 = .ok (.iload 8, 2) := by decide +kernel
theorem zd_Ref_goes_89 : decode prog_13_method_22_code 89 = .ok (.ifCond .ne 7, 3) := by decide +kernel
theorem zd_Ref_goes_92 : decode prog_13_method_22_code 92 = .ok (.iload_n 2, 1) := by decide +kernel
theorem zd_Ref_goes_93 : decode prog_13_method_22_code 93 = .ok (.goto 15, 3) := by decide +kernel
theorem zd_Ref_goes_96 : decode prog_13_method_22_code 96 = .ok (.iload 8, 2) := by decide +kernel
theorem zd_Ref_goes_98 : decode prog_13_method_22_code 98 = .ok (.iconst 1, 1) := by decide +kernel
theorem zd_Ref_goes_99 : decode prog_13_method_22_code 99 = .ok (.if_icmp .ne 7, 3) := by decide +kernel
theorem zd_Ref_goes_102 : decode prog_13_method_22_code 102 = .ok (.iload_n 3, 1) := by decide +kernel
theorem zd_Ref_goes_103 : decode prog_13_method_22_code 103 = .ok (.goto 5, 3) := by decide +kernel
theorem zd_Ref_goes_106 : decode prog_13_method_22_code 106 = .ok (.iload 4, 2) := by decide +kernel
theorem zd_Ref_goes_108 : decode prog_13_method_22_code 108 = .ok (.istore 9, 2) := by decide +kernel
theorem zd_Ref_goes_110 : decode prog_13_method_22_code 110 = .ok (.iload 9, 2) := by decide +kernel
theorem zd_Ref_goes_112 : decode prog_13_method_22_code 112 = .ok (.ldc 97, 2) := by decide +kernel
theorem zd_Ref_goes_114 : decode prog_13_method_22_code 114 = .ok (.if_icmp .eq 63, 3) := by decide +kernel
theorem zd_Ref_goes_117 : decode prog_13_method_22_code 117 = .ok (.iload 9, 2) := by decide +kernel
theorem zd_Ref_goes_119 : decode prog_13_method_22_code 119 = .ok (.aload_n 0, 1) := by decide +kernel
theorem zd_Ref_goes_120 : decode prog_13_method_22_code 120 = .ok (.getfield 44, 3) := by decide +kernel
theorem zd_Ref_goes_123 : decode prog_13_method_22_code 123 = .ok (.iload 7, 2) := by decide +kernel
theorem zd_Ref_goes_125 : decode prog_13_method_22_code 125 = .ok (.iaload, 1) := by decide +kernel
theorem zd_Ref_goes_126 : decode prog_13_method_22_code 126 = .ok (.if_icmp .gt 7, 3) := by decide +kernel
theorem zd_Ref_goes_129 : decode prog_13_method_22_code 129 = .ok (.iconst 1, 1) := by decide +kernel
theorem zd_Ref_goes_130 : decode prog_13_method_22_code 130 = .ok (.goto 4, 3) := by decide +kernel
theorem zd_Ref_goes_133 : decode prog_13_method_22_code 133 = .ok (.iconst 0, 1) := by decide +kernel
theorem zd_Ref_goes_134 : decode prog_13_method_22_code 134 = .ok (.aload_n 0, 1) := by decide +kernel
theorem zd_Ref_goes_135 : decode prog_13_method_22_code 135 = .ok (.getfield 47, 3) := by decide +kernel
theorem zd_Ref_goes_138 : decode prog_13_method_22_code 138 = .ok (.iload 7, 2) := by decide +kernel
theorem zd_Ref_goes_140 : decode prog_13_method_22_code 140 = .ok (.iaload, 1) := by decide +kernel
theorem zd_Ref_goes_141 : decode prog_13_method_22_code 141 = .ok (.iconst 1, 1) := by decide +kernel
theorem zd_Ref_goes_142 : decode prog_13_method_22_code 142 = .ok (.if_icmp .ne 7, 3) := by decide +kernel
theorem zd_Ref_goes_145 : decode prog_13_method_22_code 145 = .ok (.iconst 1, 1) := by decide +kernel
theorem zd_Ref_goes_146 : decode prog_13_method_22_code 146 = .ok (.goto 4, 3) := by decide +kernel
theorem zd_Ref_goes_149 : decode prog_13_method_22_code 149 = .ok (.iconst 0, 1) := by decide +kernel
theorem zd_Ref_goes_150 : decode prog_13_method_22_code 150 = .ok (.if_icmp .eq 7, 3) := by decide +kernel
theorem zd_Ref_goes_153 : decode prog_13_method_22_code 153 = .ok (.iconst 1, 1) := by decide +kernel
theorem zd_Ref_goes_154 : decode prog_13_method_22_code 154 = .ok (.goto 4, 3) := by decide +kernel
theorem zd_Ref_goes_157 : decode prog_13_method_22_code 157 = .ok (.iconst 0, 1) := by decide +kernel
theorem zd_Ref_goes_158 : decode prog_13_method_22_code 158 = .ok (.istore 10, 2) := by decide +kernel
theorem zd_Ref_goes_160 : decode prog_13_method_22_code 160 = .ok (.iload 10, 2) := by decide +kernel
theorem zd_Ref_goes_162 : decode prog_13_method_22_code 162 = .ok (.ifCond .eq 9, 3) := by decide +kernel
theorem zd_Ref_goes_165 : decode prog_13_method_22_code 165 = .ok (.iconst 2, 1) := by decide +kernel
theorem zd_Ref_goes_166 : decode prog_13_method_22_code 166 = .ok (.iload_n 1, 1) := by decide +kernel
theorem zd_Ref_goes_167 : decode prog_13_method_22_code 167 = .ok (.imul, 1) := by decide +kernel
theorem zd_Ref_goes_168 : decode prog_13_method_22_code 168 = .ok (.goto 8, 3) := by decide +kernel
theorem zd_Ref_goes_171 : decode prog_13_method_22_code 171 = .ok (.iconst 2, 1) := by decide +kernel
theorem zd_Ref_goes_172 : decode prog_13_method_22_code 172 = .ok (.iload_n 1, 1) := by decide +kernel
theorem zd_Ref_goes_173 : decode prog_13_method_22_code 173 = .ok (.imul, 1) := by decide +kernel
theorem zd_Ref_goes_174 : decode prog_13_method_22_code 174 = .ok (.iconst 1, 1) := by decide +kernel
theorem zd_Ref_goes_175 : decode prog_13_method_22_code 175 = .ok (.iadd, 1) := by decide +kernel
theorem zd_Ref_goes_176 : decode prog_13_method_22_code 176 = .ok (.ireturn, 1) := by decide +kernel
theorem zd_Ref_goes_177 : decode prog_13_method_22_code 177 = .ok (.iinc 7 1, 3) := by decide +kernel
theorem zd_Ref_goes_180 : decode prog_13_method_22_code 180 = .ok (.goto (-111), 3) := by decide +kernel
theorem zd_Ref_goes_183 : decode prog_13_method_22_code 183 = .ok (.aload_n 0, 1) := by decide +kernel
theorem zd_Ref_goes_184 : decode prog_13_method_22_code 184 = .ok (.aload_n 0, 1) := by decide +kernel
theorem zd_Ref_goes_185 : decode prog_13_method_22_code 185 = .ok (.getfield 32, 3) := by decide +kernel
theorem zd_Ref_goes_188 : decode prog_13_method_22_code 188 = .ok (.iload_n 1, 1) := by decide +kernel
theorem zd_Ref_goes_189 : decode prog_13_method_22_code 189 = .ok (.iaload, 1) := by decide +kernel
theorem zd_Ref_goes_190 : decode prog_13_method_22_code 190 = .ok (.iload 5, 2) := by decide +kernel
theorem zd_Ref_goes_192 : decode prog_13_method_22_code 192 = .ok (.invokevirtual 118, 3) := by decide +kernel
theorem zd_Ref_goes_195 : decode prog_13_method_22_code 195 = .ok (.istore 7, 2) := by decide +kernel
theorem zd_Ref_goes_197 : decode prog_13_method_22_code 197 = .ok (.aload_n 0, 1) := by decide +kernel
theorem zd_Ref_goes_198 : decode prog_13_method_22_code 198 = .ok (.iload 7, 2) := by decide +kernel
theorem zd_Ref_goes_200 : decode prog_13_method_22_code 200 = .ok (.iload 5, 2) := by decide +kernel
theorem zd_Ref_goes_202 : decode prog_13_method_22_code 202 = .ok (.aload_n 0, 1) := by decide +kernel
theorem zd_Ref_goes_203 : decode prog_13_method_22_code 203 = .ok (.getfield 38, 3) := by decide +kernel
theorem zd_Ref_goes_206 : decode prog_13_method_22_code 206 = .ok (.iload_n 1, 1) := by decide +kernel
theorem zd_Ref_goes_207 : decode prog_13_method_22_code 207 = .ok (.iaload, 1) := by decide +kernel
theorem zd_Ref_goes_208 : decode prog_13_method_22_code 208 = .ok (.invokevirtual 129, 3) := by decide +kernel
theorem zd_Ref_goes_211 : decode prog_13_method_22_code 211 = .ok (.istore 8, 2) := by decide +kernel
theorem zd_Ref_goes_213 : decode prog_13_method_22_code 213 = .ok (.aload_n 0, 1) := by decide +kernel
theorem zd_Ref_goes_214 : decode prog_13_method_22_code 214 = .ok (.iload 8, 2) := by decide +kernel
theorem zd_Ref_goes_216 : decode prog_13_method_22_code 216 = .ok (.iconst (-1), 1) := by decide +kernel
theorem zd_Ref_goes_217 : decode prog_13_method_22_code 217 = .ok (.invokevirtual 98, 3) := by decide +kernel
theorem zd_Ref_goes_220 : decode prog_13_method_22_code 220 = .ok (.aload_n 0, 1) := by decide +kernel
theorem zd_Ref_goes_221 : decode prog_13_method_22_code 221 = .ok (.iload 7, 2) := by decide +kernel
theorem zd_Ref_goes_223 : decode prog_13_method_22_code 223 = .ok (.iload 8, 2) := by decide +kernel
theorem zd_Ref_goes_225 : decode prog_13_method_22_code 225 = .ok (.iconst (-1), 1) := by decide +kernel
theorem zd_Ref_goes_226 : decode prog_13_method_22_code 226 = .ok (.ixor, 1) := by decide +kernel
theorem zd_Ref_goes_227 : decode prog_13_method_22_code 227 = .ok (.iand, 1) := by decide +kernel
theorem zd_Ref_goes_228 : decode prog_13_method_22_code 228 = .ok (.iconst (-1), 1) := by decide +kernel
theorem zd_Ref_goes_229 : decode prog_13_method_22_code 229 = .ok (.invokevirtual 98, 3) := by decide +kernel
theorem zd_Ref_goes_232 : decode prog_13_method_22_code 232 = .ok (.if_icmp .lt 9, 3) := by decide +kernel
theorem zd_Ref_goes_235 : decode prog_13_method_22_code 235 = .ok (.iconst 2, 1) := by decide +kernel
theorem zd_Ref_goes_236 : decode prog_13_method_22_code 236 = .ok (.iload_n 1, 1) := by decide +kernel
theorem zd_Ref_goes_237 : decode prog_13_method_22_code 237 = .ok (.imul, 1) := by decide +kernel
theorem zd_Ref_goes_238 : decode prog_13_method_22_code 238 = .ok (.goto 8, 3) := by decide +kernel
theorem zd_Ref_goes_241 : decode prog_13_method_22_code 241 = .ok (.iconst 2, 1) := by decide +kernel
theorem zd_Ref_goes_242 : decode prog_13_method_22_code 242 = .ok (.iload_n 1, 1) := by decide +kernel
theorem zd_Ref_goes_243 : decode prog_13_method_22_code 243 = .ok (.imul, 1) := by decide +kernel
theorem zd_Ref_goes_244 : decode prog_13_method_22_code 244 = .ok (.iconst 1, 1) := by decide +kernel
theorem zd_Ref_goes_245 : decode prog_13_method_22_code 245 = .ok (.iadd, 1) := by decide +kernel
theorem zd_Ref_goes_246 : decode prog_13_method_22_code 246 = .ok (.ireturn, 1) := by decide +kernel
def zm_Ref_standIns : zg_M := (⟨"SurrogateTreeModel", "standIns", "(I)V"⟩, prog_13_method_21_code, 4, none)
theorem zd_Ref_standIns_0 : decode prog_13_method_21_code 0 = .ok (.aload_n 0, 1) := by decide +kernel
theorem zd_Ref_standIns_1 : decode prog_13_method_21_code 1 = .ok (.iconst 0, 1) := by decide +kernel
theorem zd_Ref_standIns_2 : decode prog_13_method_21_code 2 = .ok (.putfield 152, 3) := by decide +kernel
theorem zd_Ref_standIns_5 : decode prog_13_method_21_code 5 = .ok (.iconst 0, 1) := by decide +kernel
theorem zd_Ref_standIns_6 : decode prog_13_method_21_code 6 = .ok (.istore_n 2, 1) := by decide +kernel
theorem zd_Ref_standIns_7 : decode prog_13_method_21_code 7 = .ok (.iload_n 2, 1) := by decide +kernel
theorem zd_Ref_standIns_8 : decode prog_13_method_21_code 8 = .ok (.iconst 3, 1) := by decide +kernel
theorem zd_Ref_standIns_9 : decode prog_13_method_21_code 9 = .ok (.if_icmp .ge 157, 3) := by decide +kernel
theorem zd_Ref_standIns_12 : decode prog_13_method_21_code 12 = .ok (.iload_n 2, 1) := by decide +kernel
theorem zd_Ref_standIns_13 : decode prog_13_method_21_code 13 = .ok (.aload_n 0, 1) := by decide +kernel
theorem zd_Ref_standIns_14 : decode prog_13_method_21_code 14 = .ok (.getfield 35, 3) := by decide +kernel
theorem zd_Ref_standIns_17 : decode prog_13_method_21_code 17 = .ok (.iload_n 1, 1) := by decide +kernel
theorem zd_Ref_standIns_18 : decode prog_13_method_21_code 18 = .ok (.iaload, 1) := by decide +kernel
theorem zd_Ref_standIns_19 : decode prog_13_method_21_code 19 = .ok (.if_icmp .eq 141, 3) := by decide +kernel
theorem zd_Ref_standIns_22 : decode prog_13_method_21_code 22 = .ok (.aload_n 0, 1) := by decide +kernel
theorem zd_Ref_standIns_23 : decode prog_13_method_21_code 23 = .ok (.iload_n 1, 1) := by decide +kernel
theorem zd_Ref_standIns_24 : decode prog_13_method_21_code 24 = .ok (.iload_n 2, 1) := by decide +kernel
theorem zd_Ref_standIns_25 : decode prog_13_method_21_code 25 = .ok (.invokevirtual 155, 3) := by decide +kernel
theorem zd_Ref_standIns_28 : decode prog_13_method_21_code 28 = .ok (.ifCond .eq 132, 3) := by decide +kernel
theorem zd_Ref_standIns_31 : decode prog_13_method_21_code 31 = .ok (.aload_n 0, 1) := by decide +kernel
theorem zd_Ref_standIns_32 : decode prog_13_method_21_code 32 = .ok (.getfield 152, 3) := by decide +kernel
theorem zd_Ref_standIns_35 : decode prog_13_method_21_code 35 = .ok (.iconst 1, 1) := by decide +kernel
theorem zd_Ref_standIns_36 : decode prog_13_method_21_code 36 = .ok (.if_icmp .ne 20, 3) := by decide +kernel
theorem zd_Ref_standIns_39 : decode prog_13_method_21_code 39 = .ok (.aload_n 0, 1) := by decide +kernel
theorem zd_Ref_standIns_40 : decode prog_13_method_21_code 40 = .ok (.getfield 139, 3) := by decide +kernel
theorem zd_Ref_standIns_43 : decode prog_13_method_21_code 43 = .ok (.aload_n 0, 1) := by decide +kernel
theorem zd_Ref_standIns_44 : decode prog_13_method_21_code 44 = .ok (.getfield 50, 3) := by decide +kernel
theorem zd_Ref_standIns_47 : decode prog_13_method_21_code 47 = .ok (.iconst 0, 1) := by decide +kernel
theorem zd_Ref_standIns_48 : decode prog_13_method_21_code 48 = .ok (.iaload, 1) := by decide +kernel
theorem zd_Ref_standIns_49 : decode prog_13_method_21_code 49 = .ok (.if_icmp .le 7, 3) := by decide +kernel
theorem zd_Ref_standIns_52 : decode prog_13_method_21_code 52 = .ok (.iconst 0, 1) := by decide +kernel
theorem zd_Ref_standIns_53 : decode prog_13_method_21_code 53 = .ok (.goto 7, 3) := by decide +kernel
theorem zd_Ref_standIns_56 : decode prog_13_method_21_code 56 = .ok (.aload_n 0, 1) := by decide +kernel
theorem zd_Ref_standIns_57 : decode prog_13_method_21_code 57 = .ok (.getfield 152, 3) := by decide +kernel
theorem zd_Ref_standIns_60 : decode prog_13_method_21_code 60 = .ok (.istore_n 3, 1) := by decide +kernel
theorem zd_Ref_standIns_61 : decode prog_13_method_21_code 61 = .ok (.iload_n 3, 1) := by decide +kernel
theorem zd_Ref_standIns_62 : decode prog_13_method_21_code 62 = .ok (.ifCond .ne 51, 3) := by decide +kernel
theorem zd_Ref_standIns_65 : decode prog_13_method_21_code 65 = .ok (.aload_n 0, 1) := by decide +kernel
theorem zd_Ref_standIns_66 : decode prog_13_method_21_code 66 = .ok (.getfield 41, 3) := by decide +kernel
theorem zd_Ref_standIns_69 : decode prog_13_method_21_code 69 = .ok (.iconst 1, 1) := by decide +kernel
theorem zd_Ref_standIns_70 : decode prog_13_method_21_code 70 = .ok (.aload_n 0, 1) := by decide +kernel
theorem zd_Ref_standIns_71 : decode prog_13_method_21_code 71 = .ok (.getfield 41, 3) := by decide +kernel
theorem zd_Ref_standIns_74 : decode prog_13_method_21_code 74 = .ok (.iconst 0, 1) := by decide +kernel
theorem zd_Ref_standIns_75 : decode prog_13_method_21_code 75 = .ok (.iaload, 1) := by decide +kernel
theorem zd_Ref_standIns_76 : decode prog_13_method_21_code 76 = .ok (.iastore, 1) := by decide +kernel
theorem zd_Ref_standIns_77 : decode prog_13_method_21_code 77 = .ok (.aload_n 0, 1) := by decide +kernel
theorem zd_Ref_standIns_78 : decode prog_13_method_21_code 78 = .ok (.getfield 44, 3) := by decide +kernel
theorem zd_Ref_standIns_81 : decode prog_13_method_21_code 81 = .ok (.iconst 1, 1) := by decide +kernel
theorem zd_Ref_standIns_82 : decode prog_13_method_21_code 82 = .ok (.aload_n 0, 1) := by decide +kernel
theorem zd_Ref_standIns_83 : decode prog_13_method_21_code 83 = .ok (.getfield 44, 3) := by decide +kernel
theorem zd_Ref_standIns_86 : decode prog_13_method_21_code 86 = .ok (.iconst 0, 1) := by decide +kernel
theorem zd_Ref_standIns_87 : decode prog_13_method_21_code 87 = .ok (.iaload, 1) := by decide +kernel
theorem zd_Ref_standIns_88 : decode prog_13_method_21_code 88 = .ok (.iastore, 1) := by decide +kernel
theorem zd_Ref_standIns_89 : decode prog_13_method_21_code 89 = .ok (.aload_n 0, 1) := by decide +kernel
theorem zd_Ref_standIns_90 : decode prog_13_method_21_code 90 = .ok (.getfield 47, 3) := by decide +kernel
theorem zd_Ref_standIns_93 : decode prog_13_method_21_code 93 = .ok (.iconst 1, 1) := by decide +kernel
theorem zd_Ref_standIns_94 : decode prog_13_method_21_code 94 = .ok (.aload_n 0, 1) := by decide +kernel
theorem zd_Ref_standIns_95 : decode prog_13_method_21_code 95 = .ok (.getfield 47, 3) := by decide +kernel
theorem zd_Ref_standIns_98 : decode prog_13_method_21_code 98 = .ok (.iconst 0, 1) := by decide +kernel
theorem zd_Ref_standIns_99 : decode prog_13_method_21_code 99 = .ok (.iaload, 1) := by decide +kernel
theorem zd_Ref_standIns_100 : decode prog_13_method_21_code 100 = .ok (.iastore, 1) := by decide +kernel
theorem zd_Ref_standIns_101 : decode prog_13_method_21_code 101 = .ok (.aload_n 0, 1) := by decide +kernel
theorem zd_Ref_standIns_102 : decode prog_13_method_21_code 102 = .ok (.getfield 50, 3) := by decide +kernel
theorem zd_Ref_standIns_105 : decode prog_13_method_21_code 105 = .ok (.iconst 1, 1) := by decide +kernel
theorem zd_Ref_standIns_106 : decode prog_13_method_21_code 106 = .ok (.aload_n 0, 1) := by decide +kernel
theorem zd_Ref_standIns_107 : decode prog_13_method_21_code 107 = .ok (.getfield 50, 3) := by decide +kernel
theorem zd_Ref_standIns_110 : decode prog_13_method_21_code 110 = .ok (.iconst 0, 1) := by decide +kernel
theorem zd_Ref_standIns_111 : decode prog_13_method_21_code 111 = .ok (.iaload, 1) := by decide +kernel
theorem zd_Ref_standIns_112 : decode prog_13_method_21_code 112 = .ok (.iastore, 1) := by decide +kernel
theorem zd_Ref_standIns_113 : decode prog_13_method_21_code 113 = .ok (.aload_n 0, 1) := by decide +kernel
theorem zd_Ref_standIns_114 : decode prog_13_method_21_code 114 = .ok (.getfield 41, 3) := by decide +kernel
theorem zd_Ref_standIns_117 : decode prog_13_method_21_code 117 = .ok (.iload_n 3, 1) := by decide +kernel
theorem zd_Ref_standIns_118 : decode prog_13_method_21_code 118 = .ok (.iload_n 2, 1) := by decide +kernel
theorem zd_Ref_standIns_119 : decode prog_13_method_21_code 119 = .ok (.iastore, 1) := by decide +kernel
theorem zd_Ref_standIns_120 : decode prog_13_method_21_code 120 = .ok (.aload_n 0, 1) := by decide +kernel
theorem zd_Ref_standIns_121 : decode prog_13_method_21_code 121 = .ok (.getfield 44, 3) := by decide +kernel
theorem zd_Ref_standIns_124 : decode prog_13_method_21_code 124 = .ok (.iload_n 3, 1) := by decide +kernel
theorem zd_Ref_standIns_125 : decode prog_13_method_21_code 125 = .ok (.aload_n 0, 1) := by decide +kernel
theorem zd_Ref_standIns_126 : decode prog_13_method_21_code 126 = .ok (.getfield 146, 3) := by decide +kernel
theorem zd_Ref_standIns_129 : decode prog_13_method_21_code 129 = .ok (.iastore, 1) := by decide +kernel
theorem zd_Ref_standIns_130 : decode prog_13_method_21_code 130 = .ok (.aload_n 0, 1) := by decide +kernel
theorem zd_Ref_standIns_131 : decode prog_13_method_21_code 131 = .ok (.getfield 47, 3) := by decide +kernel
theorem zd_Ref_standIns_134 : decode prog_13_method_21_code 134 = .ok (.iload_n 3, 1) := by decide +kernel
theorem zd_Ref_standIns_135 : decode prog_13_method_21_code 135 = .ok (.aload_n 0, 1) := by decide +kernel
theorem zd_Ref_standIns_136 : decode prog_13_method_21_code 136 = .ok (.getfield 149, 3) := by decide +kernel
theorem zd_Ref_standIns_139 : decode prog_13_method_21_code 139 = .ok (.iastore, 1) := by decide +kernel
theorem zd_Ref_standIns_140 : decode prog_13_method_21_code 140 = .ok (.aload_n 0, 1) := by decide +kernel
theorem zd_Ref_standIns_141 : decode prog_13_method_21_code 141 = .ok (.getfield 50, 3) := by decide +kernel
theorem zd_Ref_standIns_144 : decode prog_13_method_21_code 144 = .ok (.iload_n 3, 1) := by decide +kernel
theorem zd_Ref_standIns_145 : decode prog_13_method_21_code 145 = .ok (.aload_n 0, 1) := by decide +kernel
theorem zd_Ref_standIns_146 : decode prog_13_method_21_code 146 = .ok (.getfield 139, 3) := by decide +kernel
theorem zd_Ref_standIns_149 : decode prog_13_method_21_code 149 = .ok (.iastore, 1) := by decide +kernel
theorem zd_Ref_standIns_150 : decode prog_13_method_21_code 150 = .ok (.aload_n 0, 1) := by decide +kernel
theorem zd_Ref_standIns_151 : decode prog_13_method_21_code 151 = .ok (.dup, 1) := by decide +kernel
theorem zd_Ref_standIns_152 : decode prog_13_method_21_code 152 = .ok (.getfield 152, 3) := by decide +kernel
theorem zd_Ref_standIns_155 : decode prog_13_method_21_code 155 = .ok (.iconst 1, 1) := by decide +kernel
theorem zd_Ref_standIns_156 : decode prog_13_method_21_code 156 = .ok (.iadd, 1) := by decide +kernel
theorem zd_Ref_standIns_157 : decode prog_13_method_21_code 157 = .ok (.putfield 152, 3) := by decide +kernel
theorem zd_Ref_standIns_160 : decode prog_13_method_21_code 160 = .ok (.iinc 2 1, 3) := by decide +kernel
theorem zd_Ref_standIns_163 : decode prog_13_method_21_code 163 = .ok (.goto (-156), 3) := by decide +kernel
theorem zd_Ref_standIns_166 : decode prog_13_method_21_code 166 = .ok (.return_, 1) := by decide +kernel
def zm_Ref_standIn : zg_M := (⟨"SurrogateTreeModel", "standIn", "(II)Z"⟩, prog_13_method_19_code, 15, (some .boolean))
theorem zd_Ref_standIn_0 : decode prog_13_method_19_code 0 = .ok (.aload_n 0, 1) := by decide +kernel
theorem zd_Ref_standIn_1 : decode prog_13_method_19_code 1 = .ok (.getfield 35, 3) := by decide +kernel
theorem zd_Ref_standIn_4 : decode prog_13_method_19_code 4 = .ok (.iload_n 1, 1) := by decide +kernel
theorem zd_Ref_standIn_5 : decode prog_13_method_19_code 5 = .ok (.iaload, 1) := by decide +kernel
theorem zd_Ref_standIn_6 : decode prog_13_method_19_code 6 = .ok (.istore_n 3, 1) := by decide +kernel
theorem zd_Ref_standIn_7 : decode prog_13_method_19_code 7 = .ok (.aload_n 0, 1) := by decide +kernel
theorem zd_Ref_standIn_8 : decode prog_13_method_19_code 8 = .ok (.aload_n 0, 1) := by decide +kernel
theorem zd_Ref_standIn_9 : decode prog_13_method_19_code 9 = .ok (.getfield 32, 3) := by decide +kernel
theorem zd_Ref_standIn_12 : decode prog_13_method_19_code 12 = .ok (.iload_n 1, 1) := by decide +kernel
theorem zd_Ref_standIn_13 : decode prog_13_method_19_code 13 = .ok (.iaload, 1) := by decide +kernel
theorem zd_Ref_standIn_14 : decode prog_13_method_19_code 14 = .ok (.iload_n 3, 1) := by decide +kernel
theorem zd_Ref_standIn_15 : decode prog_13_method_19_code 15 = .ok (.invokevirtual 118, 3) := by decide +kernel
theorem zd_Ref_standIn_18 : decode prog_13_method_19_code 18 = .ok (.istore 4, 2) := by decide +kernel
theorem zd_Ref_standIn_20 : decode prog_13_method_19_code 20 = .ok (.aload_n 0, 1) := by decide +kernel
theorem zd_Ref_standIn_21 : decode prog_13_method_19_code 21 = .ok (.iload 4, 2) := by decide +kernel
theorem zd_Ref_standIn_23 : decode prog_13_method_19_code 23 = .ok (.iload_n 2, 1) := by decide +kernel
theorem zd_Ref_standIn_24 : decode prog_13_method_19_code 24 = .ok (.invokevirtual 118, 3) := by decide +kernel
theorem zd_Ref_standIn_27 : decode prog_13_method_19_code 27 = .ok (.istore 5, 2) := by decide +kernel
theorem zd_Ref_standIn_29 : decode prog_13_method_19_code 29 = .ok (.aload_n 0, 1) := by decide +kernel
theorem zd_Ref_standIn_30 : decode prog_13_method_19_code 30 = .ok (.iload 5, 2) := by decide +kernel
theorem zd_Ref_standIn_32 : decode prog_13_method_19_code 32 = .ok (.iload_n 3, 1) := by decide +kernel
theorem zd_Ref_standIn_33 : decode prog_13_method_19_code 33 = .ok (.aload_n 0, 1) := by decide +kernel
theorem zd_Ref_standIn_34 : decode prog_13_method_19_code 34 = .ok (.getfield 38, 3) := by decide +kernel
theorem zd_Ref_standIn_37 : decode prog_13_method_19_code 37 = .ok (.iload_n 1, 1) := by decide +kernel
theorem zd_Ref_standIn_38 : decode prog_13_method_19_code 38 = .ok (.iaload, 1) := by decide +kernel
theorem zd_Ref_standIn_39 : decode prog_13_method_19_code 39 = .ok (.invokevirtual 129, 3) := by decide +kernel
theorem zd_Ref_standIn_42 : decode prog_13_method_19_code 42 = .ok (.istore 6, 2) := by decide +kernel
theorem zd_Ref_standIn_44 : decode prog_13_method_19_code 44 = .ok (.iload 5, 2) := by decide +kernel
theorem zd_Ref_standIn_46 : decode prog_13_method_19_code 46 = .ok (.iload 6, 2) := by decide +kernel
theorem zd_Ref_standIn_48 : decode prog_13_method_19_code 48 = .ok (.iconst (-1), 1) := by decide +kernel
theorem zd_Ref_standIn_49 : decode prog_13_method_19_code 49 = .ok (.ixor, 1) := by decide +kernel
theorem zd_Ref_standIn_50 : decode prog_13_method_19_code 50 = .ok (.iand, 1) := by decide +kernel
theorem zd_Ref_standIn_51 : decode prog_13_method_19_code 51 = .ok (.istore 7, 2) := by decide +kernel
theorem zd_Ref_standIn_53 : decode prog_13_method_19_code 53 = .ok (.aload_n 0, 1) := by decide +kernel
theorem zd_Ref_standIn_54 : decode prog_13_method_19_code 54 = .ok (.iconst (-1), 1) := by decide +kernel
theorem zd_Ref_standIn_55 : decode prog_13_method_19_code 55 = .ok (.putfield 139, 3) := by decide +kernel
theorem zd_Ref_standIn_58 : decode prog_13_method_19_code 58 = .ok (.iconst 0, 1) := by decide +kernel
theorem zd_Ref_standIn_59 : decode prog_13_method_19_code 59 = .ok (.istore 8, 2) := by decide +kernel
theorem zd_Ref_standIn_61 : decode prog_13_method_19_code 61 = .ok (.iload 8, 2) := by decide +kernel
theorem zd_Ref_standIn_63 : decode prog_13_method_19_code 63 = .ok (.sipush 256, 3) := by decide +kernel
theorem zd_Ref_standIn_66 : decode prog_13_method_19_code 66 = .ok (.if_icmp .ge 129, 3) := by decide +kernel
theorem zd_Ref_standIn_69 : decode prog_13_method_19_code 69 = .ok (.iload 8, 2) := by decide +kernel
theorem zd_Ref_standIn_71 : decode prog_13_method_19_code 71 = .ok (.iconst 4, 1) := by decide +kernel
theorem zd_Ref_standIn_72 : decode prog_13_method_19_code 72 = .ok (.ishr, 1) := by decide +kernel
theorem zd_Ref_standIn_73 : decode prog_13_method_19_code 73 = .ok (.istore 9, 2) := by decide +kernel
theorem zd_Ref_standIn_75 : decode prog_13_method_19_code 75 = .ok (.iload 8, 2) := by decide +kernel
theorem zd_Ref_standIn_77 : decode prog_13_method_19_code 77 = .ok (.bipush 15, 2) := by decide +kernel
theorem zd_Ref_standIn_79 : decode prog_13_method_19_code 79 = .ok (.iand, 1) := by decide +kernel
theorem zd_Ref_standIn_80 : decode prog_13_method_19_code 80 = .ok (.istore 10, 2) := by decide +kernel
theorem zd_Ref_standIn_82 : decode prog_13_method_19_code 82 = .ok (.iload 9, 2) := by decide +kernel
theorem zd_Ref_standIn_84 : decode prog_13_method_19_code 84 = .ok (.aload_n 0, 1) := by decide +kernel
theorem zd_Ref_standIn_85 : decode prog_13_method_19_code 85 = .ok (.getfield 76, 3) := by decide +kernel
theorem zd_Ref_standIn_88 : decode prog_13_method_19_code 88 = .ok (.if_icmp .ge 101, 3) := by decide +kernel
theorem zd_Ref_standIn_91 : decode prog_13_method_19_code 91 = .ok (.iload 10, 2) := by decide +kernel
theorem zd_Ref_standIn_93 : decode prog_13_method_19_code 93 = .ok (.aload_n 0, 1) := by decide +kernel
theorem zd_Ref_standIn_94 : decode prog_13_method_19_code 94 = .ok (.getfield 76, 3) := by decide +kernel
theorem zd_Ref_standIn_97 : decode prog_13_method_19_code 97 = .ok (.if_icmp .ge 92, 3) := by decide +kernel
theorem zd_Ref_standIn_100 : decode prog_13_method_19_code 100 = .ok (.aload_n 0, 1) := by decide +kernel
theorem zd_Ref_standIn_101 : decode prog_13_method_19_code 101 = .ok (.iload 5, 2) := by decide +kernel
theorem zd_Ref_standIn_103 : decode prog_13_method_19_code 103 = .ok (.iload_n 2, 1) := by decide +kernel
theorem zd_Ref_standIn_104 : decode prog_13_method_19_code 104 = .ok (.iload 9, 2) := by decide +kernel
theorem zd_Ref_standIn_106 : decode prog_13_method_19_code 106 = .ok (.iload 10, 2) := by decide +kernel
theorem zd_Ref_standIn_108 : decode prog_13_method_19_code 108 = .ok (.invokevirtual 121, 3) := by decide +kernel
theorem zd_Ref_standIn_111 : decode prog_13_method_19_code 111 = .ok (.ifCond .ne 6, 3) := by decide +kernel
theorem zd_Ref_standIn_114 : decode prog_13_method_19_code 114 = .ok (.goto 75, 3) := by decide +kernel
theorem zd_Ref_standIn_117 : decode prog_13_method_19_code 117 = .ok (.aload_n 0, 1) := by decide +kernel
theorem zd_Ref_standIn_118 : decode prog_13_method_19_code 118 = .ok (.iload_n 2, 1) := by decide +kernel
theorem zd_Ref_standIn_119 : decode prog_13_method_19_code 119 = .ok (.iload 9, 2) := by decide +kernel
theorem zd_Ref_standIn_121 : decode prog_13_method_19_code 121 = .ok (.iload 10, 2) := by decide +kernel
theorem zd_Ref_standIn_123 : decode prog_13_method_19_code 123 = .ok (.invokevirtual 125, 3) := by decide +kernel
theorem zd_Ref_standIn_126 : decode prog_13_method_19_code 126 = .ok (.istore 11, 2) := by decide +kernel
theorem zd_Ref_standIn_128 : decode prog_13_method_19_code 128 = .ok (.aload_n 0, 1) := by decide +kernel
theorem zd_Ref_standIn_129 : decode prog_13_method_19_code 129 = .ok (.iload 5, 2) := by decide +kernel
theorem zd_Ref_standIn_131 : decode prog_13_method_19_code 131 = .ok (.iload_n 2, 1) := by decide +kernel
theorem zd_Ref_standIn_132 : decode prog_13_method_19_code 132 = .ok (.iload 11, 2) := by decide +kernel
theorem zd_Ref_standIn_134 : decode prog_13_method_19_code 134 = .ok (.invokevirtual 129, 3) := by decide +kernel
theorem zd_Ref_standIn_137 : decode prog_13_method_19_code 137 = .ok (.istore 12, 2) := by decide +kernel
theorem zd_Ref_standIn_139 : decode prog_13_method_19_code 139 = .ok (.aload_n 0, 1) := by decide +kernel
theorem zd_Ref_standIn_140 : decode prog_13_method_19_code 140 = .ok (.iload 12, 2) := by decide +kernel
theorem zd_Ref_standIn_142 : decode prog_13_method_19_code 142 = .ok (.iload 6, 2) := by decide +kernel
theorem zd_Ref_standIn_144 : decode prog_13_method_19_code 144 = .ok (.iand, 1) := by decide +kernel
theorem zd_Ref_standIn_145 : decode prog_13_method_19_code 145 = .ok (.iload 7, 2) := by decide +kernel
theorem zd_Ref_standIn_147 : decode prog_13_method_19_code 147 = .ok (.iload 12, 2) := by decide +kernel
theorem zd_Ref_standIn_149 : decode prog_13_method_19_code 149 = .ok (.iconst (-1), 1) := by decide +kernel
theorem zd_Ref_standIn_150 : decode prog_13_method_19_code 150 = .ok (.ixor, 1) := by decide +kernel
theorem zd_Ref_standIn_151 : decode prog_13_method_19_code 151 = .ok (.iand, 1) := by decide +kernel
theorem zd_Ref_standIn_152 : decode prog_13_method_19_code 152 = .ok (.ior, 1) := by decide +kernel
theorem zd_Ref_standIn_153 : decode prog_13_method_19_code 153 = .ok (.iconst (-1), 1) := by decide +kernel
theorem zd_Ref_standIn_154 : decode prog_13_method_19_code 154 = .ok (.invokevirtual 98, 3) := by decide +kernel
theorem zd_Ref_standIn_157 : decode prog_13_method_19_code 157 = .ok (.istore 13, 2) := by decide +kernel
theorem zd_Ref_standIn_159 : decode prog_13_method_19_code 159 = .ok (.aload_n 0, 1) := by decide +kernel
theorem zd_Ref_standIn_160 : decode prog_13_method_19_code 160 = .ok (.iload 5, 2) := by decide +kernel
theorem zd_Ref_standIn_162 : decode prog_13_method_19_code 162 = .ok (.iconst (-1), 1) := by decide +kernel
theorem zd_Ref_standIn_163 : decode prog_13_method_19_code 163 = .ok (.invokevirtual 98, 3) := by decide +kernel
theorem zd_Ref_standIn_166 : decode prog_13_method_19_code 166 = .ok (.iload 13, 2) := by decide +kernel
theorem zd_Ref_standIn_168 : decode prog_13_method_19_code 168 = .ok (.isub, 1) := by decide +kernel
theorem zd_Ref_standIn_169 : decode prog_13_method_19_code 169 = .ok (.istore 14, 2) := by decide +kernel
theorem zd_Ref_standIn_171 : decode prog_13_method_19_code 171 = .ok (.aload_n 0, 1) := by decide +kernel
theorem zd_Ref_standIn_172 : decode prog_13_method_19_code 172 = .ok (.iload 11, 2) := by decide +kernel
theorem zd_Ref_standIn_174 : decode prog_13_method_19_code 174 = .ok (.iconst 0, 1) := by decide +kernel
theorem zd_Ref_standIn_175 : decode prog_13_method_19_code 175 = .ok (.iload 13, 2) := by decide +kernel
theorem zd_Ref_standIn_177 : decode prog_13_method_19_code 177 = .ok (.invokevirtual 142, 3) := by decide +kernel
theorem zd_Ref_standIn_180 : decode prog_13_method_19_code 180 = .ok (.aload_n 0, 1) := by decide +kernel
theorem zd_Ref_standIn_181 : decode prog_13_method_19_code 181 = .ok (.iload 11, 2) := by decide +kernel
theorem zd_Ref_standIn_183 : decode prog_13_method_19_code 183 = .ok (.iconst 1, 1) := by decide +kernel
theorem zd_Ref_standIn_184 : decode prog_13_method_19_code 184 = .ok (.iload 14, 2) := by decide +kernel
theorem zd_Ref_standIn_186 : decode prog_13_method_19_code 186 = .ok (.invokevirtual 142, 3) := by decide +kernel
theorem zd_Ref_standIn_189 : decode prog_13_method_19_code 189 = .ok (.iinc 8 1, 3) := by decide +kernel
theorem zd_Ref_standIn_192 : decode prog_13_method_19_code 192 = .ok (.goto (-131), 3) := by decide +kernel
theorem zd_Ref_standIn_195 : decode prog_13_method_19_code 195 = .ok (.aload_n 0, 1) := by decide +kernel
theorem zd_Ref_standIn_196 : decode prog_13_method_19_code 196 = .ok (.getfield 139, 3) := by decide +kernel
theorem zd_Ref_standIn_199 : decode prog_13_method_19_code 199 = .ok (.aload_n 0, 1) := by decide +kernel
theorem zd_Ref_standIn_200 : decode prog_13_method_19_code 200 = .ok (.iload 6, 2) := by decide +kernel
theorem zd_Ref_standIn_202 : decode prog_13_method_19_code 202 = .ok (.iconst (-1), 1) := by decide +kernel
theorem zd_Ref_standIn_203 : decode prog_13_method_19_code 203 = .ok (.invokevirtual 98, 3) := by decide +kernel
theorem zd_Ref_standIn_206 : decode prog_13_method_19_code 206 = .ok (.if_icmp .le 21, 3) := by decide +kernel
theorem zd_Ref_standIn_209 : decode prog_13_method_19_code 209 = .ok (.aload_n 0, 1) := by decide +kernel
theorem zd_Ref_standIn_210 : decode prog_13_method_19_code 210 = .ok (.getfield 139, 3) := by decide +kernel
theorem zd_Ref_standIn_213 : decode prog_13_method_19_code 213 = .ok (.aload_n 0, 1) := by decide +kernel
theorem zd_Ref_standIn_214 : decode prog_13_method_19_code 214 = .ok (.iload 7, 2) := by decide +kernel
theorem zd_Ref_standIn_216 : decode prog_13_method_19_code 216 = .ok (.iconst (-1), 1) := by decide +kernel
theorem zd_Ref_standIn_217 : decode prog_13_method_19_code 217 = .ok (.invokevirtual 98, 3) := by decide +kernel
theorem zd_Ref_standIn_220 : decode prog_13_method_19_code 220 = .ok (.if_icmp .le 7, 3) := by decide +kernel
theorem zd_Ref_standIn_223 : decode prog_13_method_19_code 223 = .ok (.iconst 1, 1) := by decide +kernel
theorem zd_Ref_standIn_224 : decode prog_13_method_19_code 224 = .ok (.goto 4, 3) := by decide +kernel
theorem zd_Ref_standIn_227 : decode prog_13_method_19_code 227 = .ok (.iconst 0, 1) := by decide +kernel
theorem zd_Ref_standIn_228 : decode prog_13_method_19_code 228 = .ok (.ireturn, 1) := by decide +kernel
def zm_Ref_consider : zg_M := (⟨"SurrogateTreeModel", "consider", "(III)V"⟩, prog_13_method_20_code, 5, none)
theorem zd_Ref_consider_0 : decode prog_13_method_20_code 0 = .ok (.iload_n 3, 1) := by decide +kernel
theorem zd_Ref_consider_1 : decode prog_13_method_20_code 1 = .ok (.aload_n 0, 1) := by decide +kernel
theorem zd_Ref_consider_2 : decode prog_13_method_20_code 2 = .ok (.getfield 139, 3) := by decide +kernel
theorem zd_Ref_consider_5 : decode prog_13_method_20_code 5 = .ok (.if_icmp .gt 35, 3) := by decide +kernel
theorem zd_Ref_consider_8 : decode prog_13_method_20_code 8 = .ok (.iload_n 3, 1) := by decide +kernel
theorem zd_Ref_consider_9 : decode prog_13_method_20_code 9 = .ok (.aload_n 0, 1) := by decide +kernel
theorem zd_Ref_consider_10 : decode prog_13_method_20_code 10 = .ok (.getfield 139, 3) := by decide +kernel
theorem zd_Ref_consider_13 : decode prog_13_method_20_code 13 = .ok (.if_icmp .ne 31, 3) := by decide +kernel
theorem zd_Ref_consider_16 : decode prog_13_method_20_code 16 = .ok (.iload_n 1, 1) := by decide +kernel
theorem zd_Ref_consider_17 : decode prog_13_method_20_code 17 = .ok (.aload_n 0, 1) := by decide +kernel
theorem zd_Ref_consider_18 : decode prog_13_method_20_code 18 = .ok (.getfield 146, 3) := by decide +kernel
theorem zd_Ref_consider_21 : decode prog_13_method_20_code 21 = .ok (.if_icmp .lt 19, 3) := by decide +kernel
theorem zd_Ref_consider_24 : decode prog_13_method_20_code 24 = .ok (.iload_n 1, 1) := by decide +kernel
theorem zd_Ref_consider_25 : decode prog_13_method_20_code 25 = .ok (.aload_n 0, 1) := by decide +kernel
theorem zd_Ref_consider_26 : decode prog_13_method_20_code 26 = .ok (.getfield 146, 3) := by decide +kernel
theorem zd_Ref_consider_29 : decode prog_13_method_20_code 29 = .ok (.if_icmp .ne 15, 3) := by decide +kernel
theorem zd_Ref_consider_32 : decode prog_13_method_20_code 32 = .ok (.iload_n 2, 1) := by decide +kernel
theorem zd_Ref_consider_33 : decode prog_13_method_20_code 33 = .ok (.aload_n 0, 1) := by decide +kernel
theorem zd_Ref_consider_34 : decode prog_13_method_20_code 34 = .ok (.getfield 149, 3) := by decide +kernel
theorem zd_Ref_consider_37 : decode prog_13_method_20_code 37 = .ok (.if_icmp .ge 7, 3) := by decide +kernel
theorem zd_Ref_consider_40 : decode prog_13_method_20_code 40 = .ok (.iconst 1, 1) := by decide +kernel
theorem zd_Ref_consider_41 : decode prog_13_method_20_code 41 = .ok (.goto 4, 3) := by decide +kernel
theorem zd_Ref_consider_44 : decode prog_13_method_20_code 44 = .ok (.iconst 0, 1) := by decide +kernel
theorem zd_Ref_consider_45 : decode prog_13_method_20_code 45 = .ok (.istore 4, 2) := by decide +kernel
theorem zd_Ref_consider_47 : decode prog_13_method_20_code 47 = .ok (.iload 4, 2) := by decide +kernel
theorem zd_Ref_consider_49 : decode prog_13_method_20_code 49 = .ok (.ifCond .eq 18, 3) := by decide +kernel
theorem zd_Ref_consider_52 : decode prog_13_method_20_code 52 = .ok (.aload_n 0, 1) := by decide +kernel
theorem zd_Ref_consider_53 : decode prog_13_method_20_code 53 = .ok (.iload_n 3, 1) := by decide +kernel
theorem zd_Ref_consider_54 : decode prog_13_method_20_code 54 = .ok (.putfield 139, 3) := by decide +kernel
theorem zd_Ref_consider_57 : decode prog_13_method_20_code 57 = .ok (.aload_n 0, 1) := by decide +kernel
theorem zd_Ref_consider_58 : decode prog_13_method_20_code 58 = .ok (.iload_n 1, 1) := by decide +kernel
theorem zd_Ref_consider_59 : decode prog_13_method_20_code 59 = .ok (.putfield 146, 3) := by decide +kernel
theorem zd_Ref_consider_62 : decode prog_13_method_20_code 62 = .ok (.aload_n 0, 1) := by decide +kernel
theorem zd_Ref_consider_63 : decode prog_13_method_20_code 63 = .ok (.iload_n 2, 1) := by decide +kernel
theorem zd_Ref_consider_64 : decode prog_13_method_20_code 64 = .ok (.putfield 149, 3) := by decide +kernel
theorem zd_Ref_consider_67 : decode prog_13_method_20_code 67 = .ok (.return_, 1) := by decide +kernel
def zm_Ref_kind : zg_M := (⟨"SurrogateTreeModel", "kind", "(I)I"⟩, prog_13_method_29_code, 3, (some .int))
theorem zd_Ref_kind_0 : decode prog_13_method_29_code 0 = .ok (.iload_n 1, 1) := by decide +kernel
theorem zd_Ref_kind_1 : decode prog_13_method_29_code 1 = .ok (.iconst 1, 1) := by decide +kernel
theorem zd_Ref_kind_2 : decode prog_13_method_29_code 2 = .ok (.if_icmp .lt 18, 3) := by decide +kernel
theorem zd_Ref_kind_5 : decode prog_13_method_29_code 5 = .ok (.iload_n 1, 1) := by decide +kernel
theorem zd_Ref_kind_6 : decode prog_13_method_29_code 6 = .ok (.bipush 31, 2) := by decide +kernel
theorem zd_Ref_kind_8 : decode prog_13_method_29_code 8 = .ok (.if_icmp .gt 12, 3) := by decide +kernel
theorem zd_Ref_kind_11 : decode prog_13_method_29_code 11 = .ok (.aload_n 0, 1) := by decide +kernel
theorem zd_Ref_kind_12 : decode prog_13_method_29_code 12 = .ok (.getfield 29, 3) := by decide +kernel
theorem zd_Ref_kind_15 : decode prog_13_method_29_code 15 = .ok (.iload_n 1, 1) := by decide +kernel
theorem zd_Ref_kind_16 : decode prog_13_method_29_code 16 = .ok (.iaload, 1) := by decide +kernel
theorem zd_Ref_kind_17 : decode prog_13_method_29_code 17 = .ok (.ifCond .ne 5, 3) := by decide +kernel
theorem zd_Ref_kind_20 : decode prog_13_method_29_code 20 = .ok (.iconst (-1), 1) := by decide +kernel
theorem zd_Ref_kind_21 : decode prog_13_method_29_code 21 = .ok (.ireturn, 1) := by decide +kernel
theorem zd_Ref_kind_22 : decode prog_13_method_29_code 22 = .ok (.aload_n 0, 1) := by decide +kernel
theorem zd_Ref_kind_23 : decode prog_13_method_29_code 23 = .ok (.getfield 79, 3) := by decide +kernel
theorem zd_Ref_kind_26 : decode prog_13_method_29_code 26 = .ok (.ifCond .ne 12, 3) := by decide +kernel
theorem zd_Ref_kind_29 : decode prog_13_method_29_code 29 = .ok (.aload_n 0, 1) := by decide +kernel
theorem zd_Ref_kind_30 : decode prog_13_method_29_code 30 = .ok (.getfield 29, 3) := by decide +kernel
theorem zd_Ref_kind_33 : decode prog_13_method_29_code 33 = .ok (.iload_n 1, 1) := by decide +kernel
theorem zd_Ref_kind_34 : decode prog_13_method_29_code 34 = .ok (.iaload, 1) := by decide +kernel
theorem zd_Ref_kind_35 : decode prog_13_method_29_code 35 = .ok (.iconst 1, 1) := by decide +kernel
theorem zd_Ref_kind_36 : decode prog_13_method_29_code 36 = .ok (.isub, 1) := by decide +kernel
theorem zd_Ref_kind_37 : decode prog_13_method_29_code 37 = .ok (.ireturn, 1) := by decide +kernel
theorem zd_Ref_kind_38 : decode prog_13_method_29_code 38 = .ok (.aload_n 0, 1) := by decide +kernel
theorem zd_Ref_kind_39 : decode prog_13_method_29_code 39 = .ok (.invokevirtual 183, 3) := by decide +kernel
theorem zd_Ref_kind_42 : decode prog_13_method_29_code 42 = .ok (.aload_n 0, 1) := by decide +kernel
theorem zd_Ref_kind_43 : decode prog_13_method_29_code 43 = .ok (.aload_n 0, 1) := by decide +kernel
theorem zd_Ref_kind_44 : decode prog_13_method_29_code 44 = .ok (.getfield 186, 3) := by decide +kernel
theorem zd_Ref_kind_47 : decode prog_13_method_29_code 47 = .ok (.aload_n 0, 1) := by decide +kernel
theorem zd_Ref_kind_48 : decode prog_13_method_29_code 48 = .ok (.getfield 189, 3) := by decide +kernel
theorem zd_Ref_kind_51 : decode prog_13_method_29_code 51 = .ok (.invokevirtual 192, 3) := by decide +kernel
theorem zd_Ref_kind_54 : decode prog_13_method_29_code 54 = .ok (.pop, 1) := by decide +kernel
theorem zd_Ref_kind_55 : decode prog_13_method_29_code 55 = .ok (.iload_n 1, 1) := by decide +kernel
theorem zd_Ref_kind_56 : decode prog_13_method_29_code 56 = .ok (.iconst 1, 1) := by decide +kernel
theorem zd_Ref_kind_57 : decode prog_13_method_29_code 57 = .ok (.ishr, 1) := by decide +kernel
theorem zd_Ref_kind_58 : decode prog_13_method_29_code 58 = .ok (.istore_n 2, 1) := by decide +kernel
theorem zd_Ref_kind_59 : decode prog_13_method_29_code 59 = .ok (.iload_n 2, 1) := by decide +kernel
theorem zd_Ref_kind_60 : decode prog_13_method_29_code 60 = .ok (.ifCond .le 21, 3) := by decide +kernel
theorem zd_Ref_kind_63 : decode prog_13_method_29_code 63 = .ok (.aload_n 0, 1) := by decide +kernel
theorem zd_Ref_kind_64 : decode prog_13_method_29_code 64 = .ok (.getfield 63, 3) := by decide +kernel
theorem zd_Ref_kind_67 : decode prog_13_method_29_code 67 = .ok (.iload_n 2, 1) := by decide +kernel
theorem zd_Ref_kind_68 : decode prog_13_method_29_code 68 = .ok (.baload, 1) := by decide +kernel
theorem zd_Ref_kind_69 : decode prog_13_method_29_code 69 = .ok (.ifCond .ne 5, 3) := by decide +kernel
theorem zd_Ref_kind_72 : decode prog_13_method_29_code 72 = .ok (.iconst (-1), 1) := by decide +kernel
theorem zd_Ref_kind_73 : decode prog_13_method_29_code 73 = .ok (.ireturn, 1) := by decide +kernel
theorem zd_Ref_kind_74 : decode prog_13_method_29_code 74 = .ok (.iload_n 2, 1) := by decide +kernel
theorem zd_Ref_kind_75 : decode prog_13_method_29_code 75 = .ok (.iconst 1, 1) := by decide +kernel
theorem zd_Ref_kind_76 : decode prog_13_method_29_code 76 = .ok (.ishr, 1) := by decide +kernel
theorem zd_Ref_kind_77 : decode prog_13_method_29_code 77 = .ok (.istore_n 2, 1) := by decide +kernel
theorem zd_Ref_kind_78 : decode prog_13_method_29_code 78 = .ok (.goto (-19), 3) := by decide +kernel
theorem zd_Ref_kind_81 : decode prog_13_method_29_code 81 = .ok (.aload_n 0, 1) := by decide +kernel
theorem zd_Ref_kind_82 : decode prog_13_method_29_code 82 = .ok (.getfield 63, 3) := by decide +kernel
theorem zd_Ref_kind_85 : decode prog_13_method_29_code 85 = .ok (.iload_n 1, 1) := by decide +kernel
theorem zd_Ref_kind_86 : decode prog_13_method_29_code 86 = .ok (.baload, 1) := by decide +kernel
theorem zd_Ref_kind_87 : decode prog_13_method_29_code 87 = .ok (.ifCond .eq 7, 3) := by decide +kernel
theorem zd_Ref_kind_90 : decode prog_13_method_29_code 90 = .ok (.iconst 2, 1) := by decide +kernel
theorem zd_Ref_kind_91 : decode prog_13_method_29_code 91 = .ok (.goto 4, 3) := by decide +kernel
theorem zd_Ref_kind_94 : decode prog_13_method_29_code 94 = .ok (.iconst 1, 1) := by decide +kernel
theorem zd_Ref_kind_95 : decode prog_13_method_29_code 95 = .ok (.ireturn, 1) := by decide +kernel
def zm_Ref_findErrors : zg_M := (⟨"SurrogateTreeModel", "findErrors", "()V"⟩, prog_13_method_27_code, 2, none)
theorem zd_Ref_findErrors_0 : decode prog_13_method_27_code 0 = .ok (.iconst 1, 1) := by decide +kernel
theorem zd_Ref_findErrors_1 : decode prog_13_method_27_code 1 = .ok (.istore_n 1, 1) := by decide +kernel
theorem zd_Ref_findErrors_2 : decode prog_13_method_27_code 2 = .ok (.iload_n 1, 1) := by decide +kernel
theorem zd_Ref_findErrors_3 : decode prog_13_method_27_code 3 = .ok (.bipush 32, 2) := by decide +kernel
theorem zd_Ref_findErrors_5 : decode prog_13_method_27_code 5 = .ok (.if_icmp .ge 38, 3) := by decide +kernel
theorem zd_Ref_findErrors_8 : decode prog_13_method_27_code 8 = .ok (.aload_n 0, 1) := by decide +kernel
theorem zd_Ref_findErrors_9 : decode prog_13_method_27_code 9 = .ok (.getfield 53, 3) := by decide +kernel
theorem zd_Ref_findErrors_12 : decode prog_13_method_27_code 12 = .ok (.iload_n 1, 1) := by decide +kernel
theorem zd_Ref_findErrors_13 : decode prog_13_method_27_code 13 = .ok (.aload_n 0, 1) := by decide +kernel
theorem zd_Ref_findErrors_14 : decode prog_13_method_27_code 14 = .ok (.getfield 29, 3) := by decide +kernel
theorem zd_Ref_findErrors_17 : decode prog_13_method_27_code 17 = .ok (.iload_n 1, 1) := by decide +kernel
theorem zd_Ref_findErrors_18 : decode prog_13_method_27_code 18 = .ok (.iaload, 1) := by decide +kernel
theorem zd_Ref_findErrors_19 : decode prog_13_method_27_code 19 = .ok (.ifCond .le 16, 3) := by decide +kernel
theorem zd_Ref_findErrors_22 : decode prog_13_method_27_code 22 = .ok (.aload_n 0, 1) := by decide +kernel
theorem zd_Ref_findErrors_23 : decode prog_13_method_27_code 23 = .ok (.aload_n 0, 1) := by decide +kernel
theorem zd_Ref_findErrors_24 : decode prog_13_method_27_code 24 = .ok (.getfield 32, 3) := by decide +kernel
theorem zd_Ref_findErrors_27 : decode prog_13_method_27_code 27 = .ok (.iload_n 1, 1) := by decide +kernel
theorem zd_Ref_findErrors_28 : decode prog_13_method_27_code 28 = .ok (.iaload, 1) := by decide +kernel
theorem zd_Ref_findErrors_29 : decode prog_13_method_27_code 29 = .ok (.invokevirtual 180, 3) := by decide +kernel
theorem zd_Ref_findErrors_32 : decode prog_13_method_27_code 32 = .ok (.goto 4, 3) := by decide +kernel
theorem zd_Ref_findErrors_35 : decode prog_13_method_27_code 35 = .ok (.iconst 0, 1) := by decide +kernel
theorem zd_Ref_findErrors_36 : decode prog_13_method_27_code 36 = .ok (.iastore, 1) := by decide +kernel
theorem zd_Ref_findErrors_37 : decode prog_13_method_27_code 37 = .ok (.iinc 1 1, 3) := by decide +kernel
theorem zd_Ref_findErrors_40 : decode prog_13_method_27_code 40 = .ok (.goto (-38), 3) := by decide +kernel
theorem zd_Ref_findErrors_43 : decode prog_13_method_27_code 43 = .ok (.return_, 1) := by decide +kernel
def zm_Ref_errorIn : zg_M := (⟨"SurrogateTreeModel", "errorIn", "(I)I"⟩, prog_13_method_15_code, 2, (some .int))
theorem zd_Ref_errorIn_0 : decode prog_13_method_15_code 0 = .ok (.aload_n 0, 1) := by decide +kernel
theorem zd_Ref_errorIn_1 : decode prog_13_method_15_code 1 = .ok (.iload_n 1, 1) := by decide +kernel
theorem zd_Ref_errorIn_2 : decode prog_13_method_15_code 2 = .ok (.iconst (-1), 1) := by decide +kernel
theorem zd_Ref_errorIn_3 : decode prog_13_method_15_code 3 = .ok (.invokevirtual 98, 3) := by decide +kernel
theorem zd_Ref_errorIn_6 : decode prog_13_method_15_code 6 = .ok (.aload_n 0, 1) := by decide +kernel
theorem zd_Ref_errorIn_7 : decode prog_13_method_15_code 7 = .ok (.iload_n 1, 1) := by decide +kernel
theorem zd_Ref_errorIn_8 : decode prog_13_method_15_code 8 = .ok (.aload_n 0, 1) := by decide +kernel
theorem zd_Ref_errorIn_9 : decode prog_13_method_15_code 9 = .ok (.iload_n 1, 1) := by decide +kernel
theorem zd_Ref_errorIn_10 : decode prog_13_method_15_code 10 = .ok (.invokevirtual 102, 3) := by decide +kernel
theorem zd_Ref_errorIn_13 : decode prog_13_method_15_code 13 = .ok (.invokevirtual 98, 3) := by decide +kernel
theorem zd_Ref_errorIn_16 : decode prog_13_method_15_code 16 = .ok (.isub, 1) := by decide +kernel
theorem zd_Ref_errorIn_17 : decode prog_13_method_15_code 17 = .ok (.ireturn, 1) := by decide +kernel
def zm_Ref_shape : zg_M := (⟨"SurrogateTreeModel", "shape", "(II)I"⟩, prog_13_method_28_code, 6, (some .int))
theorem zd_Ref_shape_0 : decode prog_13_method_28_code 0 = .ok (.bipush 31, 2) := by decide +kernel
theorem zd_Ref_shape_2 : decode prog_13_method_28_code 2 = .ok (.istore_n 3, 1) := by decide +kernel
theorem zd_Ref_shape_3 : decode prog_13_method_28_code 3 = .ok (.iload_n 3, 1) := by decide +kernel
theorem zd_Ref_shape_4 : decode prog_13_method_28_code 4 = .ok (.ifCond .le 147, 3) := by decide +kernel
theorem zd_Ref_shape_7 : decode prog_13_method_28_code 7 = .ok (.aload_n 0, 1) := by decide +kernel
theorem zd_Ref_shape_8 : decode prog_13_method_28_code 8 = .ok (.getfield 53, 3) := by decide +kernel
theorem zd_Ref_shape_11 : decode prog_13_method_28_code 11 = .ok (.iload_n 3, 1) := by decide +kernel
theorem zd_Ref_shape_12 : decode prog_13_method_28_code 12 = .ok (.iaload, 1) := by decide +kernel
theorem zd_Ref_shape_13 : decode prog_13_method_28_code 13 = .ok (.i2l, 1) := by decide +kernel
theorem zd_Ref_shape_14 : decode prog_13_method_28_code 14 = .ok (.iload_n 2, 1) := by decide +kernel
theorem zd_Ref_shape_15 : decode prog_13_method_28_code 15 = .ok (.i2l, 1) := by decide +kernel
theorem zd_Ref_shape_16 : decode prog_13_method_28_code 16 = .ok (.lmul, 1) := by decide +kernel
theorem zd_Ref_shape_17 : decode prog_13_method_28_code 17 = .ok (.iload_n 1, 1) := by decide +kernel
theorem zd_Ref_shape_18 : decode prog_13_method_28_code 18 = .ok (.i2l, 1) := by decide +kernel
theorem zd_Ref_shape_19 : decode prog_13_method_28_code 19 = .ok (.ladd, 1) := by decide +kernel
theorem zd_Ref_shape_20 : decode prog_13_method_28_code 20 = .ok (.lstore 4, 2) := by decide +kernel
theorem zd_Ref_shape_22 : decode prog_13_method_28_code 22 = .ok (.aload_n 0, 1) := by decide +kernel
theorem zd_Ref_shape_23 : decode prog_13_method_28_code 23 = .ok (.getfield 63, 3) := by decide +kernel
theorem zd_Ref_shape_26 : decode prog_13_method_28_code 26 = .ok (.iload_n 3, 1) := by decide +kernel
theorem zd_Ref_shape_27 : decode prog_13_method_28_code 27 = .ok (.aload_n 0, 1) := by decide +kernel
theorem zd_Ref_shape_28 : decode prog_13_method_28_code 28 = .ok (.getfield 29, 3) := by decide +kernel
theorem zd_Ref_shape_31 : decode prog_13_method_28_code 31 = .ok (.iload_n 3, 1) := by decide +kernel
theorem zd_Ref_shape_32 : decode prog_13_method_28_code 32 = .ok (.iaload, 1) := by decide +kernel
theorem zd_Ref_shape_33 : decode prog_13_method_28_code 33 = .ok (.iconst 3, 1) := by decide +kernel
theorem zd_Ref_shape_34 : decode prog_13_method_28_code 34 = .ok (.if_icmp .ne 32, 3) := by decide +kernel
theorem zd_Ref_shape_37 : decode prog_13_method_28_code 37 = .ok (.aload_n 0, 1) := by decide +kernel
theorem zd_Ref_shape_38 : decode prog_13_method_28_code 38 = .ok (.getfield 56, 3) := by decide +kernel
theorem zd_Ref_shape_41 : decode prog_13_method_28_code 41 = .ok (.iconst 2, 1) := by decide +kernel
theorem zd_Ref_shape_42 : decode prog_13_method_28_code 42 = .ok (.iload_n 3, 1) := by decide +kernel
theorem zd_Ref_shape_43 : decode prog_13_method_28_code 43 = .ok (.imul, 1) := by decide +kernel
theorem zd_Ref_shape_44 : decode prog_13_method_28_code 44 = .ok (.laload, 1) := by decide +kernel
theorem zd_Ref_shape_45 : decode prog_13_method_28_code 45 = .ok (.aload_n 0, 1) := by decide +kernel
theorem zd_Ref_shape_46 : decode prog_13_method_28_code 46 = .ok (.getfield 56, 3) := by decide +kernel
theorem zd_Ref_shape_49 : decode prog_13_method_28_code 49 = .ok (.iconst 2, 1) := by decide +kernel
theorem zd_Ref_shape_50 : decode prog_13_method_28_code 50 = .ok (.iload_n 3, 1) := by decide +kernel
theorem zd_Ref_shape_51 : decode prog_13_method_28_code 51 = .ok (.imul, 1) := by decide +kernel
theorem zd_Ref_shape_52 : decode prog_13_method_28_code 52 = .ok (.iconst 1, 1) := by decide +kernel
theorem zd_Ref_shape_53 : decode prog_13_method_28_code 53 = .ok (.iadd, 1) := by decide +kernel
theorem zd_Ref_shape_54 : decode prog_13_method_28_code 54 = .ok (.laload, 1) := by decide +kernel
theorem zd_Ref_shape_55 : decode prog_13_method_28_code 55 = .ok (.ladd, 1) := by decide +kernel
theorem zd_Ref_shape_56 : decode prog_13_method_28_code 56 = .ok (.lload 4, 2) := by decide +kernel
theorem zd_Ref_shape_58 : decode prog_13_method_28_code 58 = .ok (.lcmp, 1) := by decide +kernel
theorem zd_Ref_shape_59 : decode prog_13_method_28_code 59 = .ok (.ifCond .ge 7, 3) := by decide +kernel
theorem zd_Ref_shape_62 : decode prog_13_method_28_code 62 = .ok (.iconst 1, 1) := by decide +kernel
theorem zd_Ref_shape_63 : decode prog_13_method_28_code 63 = .ok (.goto 4, 3) := by decide +kernel
theorem zd_Ref_shape_66 : decode prog_13_method_28_code 66 = .ok (.iconst 0, 1) := by decide +kernel
theorem zd_Ref_shape_67 : decode prog_13_method_28_code 67 = .ok (.bastore, 1) := by decide +kernel
theorem zd_Ref_shape_68 : decode prog_13_method_28_code 68 = .ok (.aload_n 0, 1) := by decide +kernel
theorem zd_Ref_shape_69 : decode prog_13_method_28_code 69 = .ok (.getfield 56, 3) := by decide +kernel
theorem zd_Ref_shape_72 : decode prog_13_method_28_code 72 = .ok (.iload_n 3, 1) := by decide +kernel
theorem zd_Ref_shape_73 : decode prog_13_method_28_code 73 = .ok (.aload_n 0, 1) := by decide +kernel
theorem zd_Ref_shape_74 : decode prog_13_method_28_code 74 = .ok (.getfield 63, 3) := by decide +kernel
theorem zd_Ref_shape_77 : decode prog_13_method_28_code 77 = .ok (.iload_n 3, 1) := by decide +kernel
theorem zd_Ref_shape_78 : decode prog_13_method_28_code 78 = .ok (.baload, 1) := by decide +kernel
theorem zd_Ref_shape_79 : decode prog_13_method_28_code 79 = .ok (.ifCond .eq 25, 3) := by decide +kernel
theorem zd_Ref_shape_82 : decode prog_13_method_28_code 82 = .ok (.aload_n 0, 1) := by decide +kernel
theorem zd_Ref_shape_83 : decode prog_13_method_28_code 83 = .ok (.getfield 56, 3) := by decide +kernel
theorem zd_Ref_shape_86 : decode prog_13_method_28_code 86 = .ok (.iconst 2, 1) := by decide +kernel
theorem zd_Ref_shape_87 : decode prog_13_method_28_code 87 = .ok (.iload_n 3, 1) := by decide +kernel
theorem zd_Ref_shape_88 : decode prog_13_method_28_code 88 = .ok (.imul, 1) := by decide +kernel
theorem zd_Ref_shape_89 : decode prog_13_method_28_code 89 = .ok (.laload, 1) := by decide +kernel
theorem zd_Ref_shape_90 : decode prog_13_method_28_code 90 = .ok (.aload_n 0, 1) := by decide +kernel
theorem zd_Ref_shape_91 : decode prog_13_method_28_code 91 = .ok (.getfield 56, 3) := by decide +kernel
theorem zd_Ref_shape_94 : decode prog_13_method_28_code 94 = .ok (.iconst 2, 1) := by decide +kernel
theorem zd_Ref_shape_95 : decode prog_13_method_28_code 95 = .ok (.iload_n 3, 1) := by decide +kernel
theorem zd_Ref_shape_96 : decode prog_13_method_28_code 96 = .ok (.imul, 1) := by decide +kernel
theorem zd_Ref_shape_97 : decode prog_13_method_28_code 97 = .ok (.iconst 1, 1) := by decide +kernel
theorem zd_Ref_shape_98 : decode prog_13_method_28_code 98 = .ok (.iadd, 1) := by decide +kernel
theorem zd_Ref_shape_99 : decode prog_13_method_28_code 99 = .ok (.laload, 1) := by decide +kernel
theorem zd_Ref_shape_100 : decode prog_13_method_28_code 100 = .ok (.ladd, 1) := by decide +kernel
theorem zd_Ref_shape_101 : decode prog_13_method_28_code 101 = .ok (.goto 5, 3) := by decide +kernel
theorem zd_Ref_shape_104 : decode prog_13_method_28_code 104 = .ok (.lload 4, 2) := by decide +kernel
theorem zd_Ref_shape_106 : decode prog_13_method_28_code 106 = .ok (.lastore, 1) := by decide +kernel
theorem zd_Ref_shape_107 : decode prog_13_method_28_code 107 = .ok (.aload_n 0, 1) := by decide +kernel
theorem zd_Ref_shape_108 : decode prog_13_method_28_code 108 = .ok (.getfield 60, 3) := by decide +kernel
theorem zd_Ref_shape_111 : decode prog_13_method_28_code 111 = .ok (.iload_n 3, 1) := by decide +kernel
theorem zd_Ref_shape_112 : decode prog_13_method_28_code 112 = .ok (.aload_n 0, 1) := by decide +kernel
theorem zd_Ref_shape_113 : decode prog_13_method_28_code 113 = .ok (.getfield 63, 3) := by decide +kernel
theorem zd_Ref_shape_116 : decode prog_13_method_28_code 116 = .ok (.iload_n 3, 1) := by decide +kernel
theorem zd_Ref_shape_117 : decode prog_13_method_28_code 117 = .ok (.baload, 1) := by decide +kernel
theorem zd_Ref_shape_118 : decode prog_13_method_28_code 118 = .ok (.ifCond .eq 25, 3) := by decide +kernel
theorem zd_Ref_shape_121 : decode prog_13_method_28_code 121 = .ok (.aload_n 0, 1) := by decide +kernel
theorem zd_Ref_shape_122 : decode prog_13_method_28_code 122 = .ok (.getfield 60, 3) := by decide +kernel
theorem zd_Ref_shape_125 : decode prog_13_method_28_code 125 = .ok (.iconst 2, 1) := by decide +kernel
theorem zd_Ref_shape_126 : decode prog_13_method_28_code 126 = .ok (.iload_n 3, 1) := by decide +kernel
theorem zd_Ref_shape_127 : decode prog_13_method_28_code 127 = .ok (.imul, 1) := by decide +kernel
theorem zd_Ref_shape_128 : decode prog_13_method_28_code 128 = .ok (.iaload, 1) := by decide +kernel
theorem zd_Ref_shape_129 : decode prog_13_method_28_code 129 = .ok (.aload_n 0, 1) := by decide +kernel
theorem zd_Ref_shape_130 : decode prog_13_method_28_code 130 = .ok (.getfield 60, 3) := by decide +kernel
theorem zd_Ref_shape_133 : decode prog_13_method_28_code 133 = .ok (.iconst 2, 1) := by decide +kernel
theorem zd_Ref_shape_134 : decode prog_13_method_28_code 134 = .ok (.iload_n 3, 1) := by decide +kernel
theorem zd_Ref_shape_135 : decode prog_13_method_28_code 135 = .ok (.imul, 1) := by decide +kernel
theorem zd_Ref_shape_136 : decode prog_13_method_28_code 136 = .ok (.iconst 1, 1) := by decide +kernel
theorem zd_Ref_shape_137 : decode prog_13_method_28_code 137 = .ok (.iadd, 1) := by decide +kernel
theorem zd_Ref_shape_138 : decode prog_13_method_28_code 138 = .ok (.iaload, 1) := by decide +kernel
theorem zd_Ref_shape_139 : decode prog_13_method_28_code 139 = .ok (.iadd, 1) := by decide +kernel
theorem zd_Ref_shape_140 : decode prog_13_method_28_code 140 = .ok (.goto 4, 3) := by decide +kernel
theorem zd_Ref_shape_143 : decode prog_13_method_28_code 143 = .ok (.iconst 1, 1) := by decide +kernel
theorem zd_Ref_shape_144 : decode prog_13_method_28_code 144 = .ok (.iastore, 1) := by decide +kernel
theorem zd_Ref_shape_145 : decode prog_13_method_28_code 145 = .ok (.iinc 3 (-1), 3) := by decide +kernel
theorem zd_Ref_shape_148 : decode prog_13_method_28_code 148 = .ok (.goto (-145), 3) := by decide +kernel
theorem zd_Ref_shape_151 : decode prog_13_method_28_code 151 = .ok (.aload_n 0, 1) := by decide +kernel
theorem zd_Ref_shape_152 : decode prog_13_method_28_code 152 = .ok (.getfield 60, 3) := by decide +kernel
theorem zd_Ref_shape_155 : decode prog_13_method_28_code 155 = .ok (.iconst 1, 1) := by decide +kernel
theorem zd_Ref_shape_156 : decode prog_13_method_28_code 156 = .ok (.iaload, 1) := by decide +kernel
theorem zd_Ref_shape_157 : decode prog_13_method_28_code 157 = .ok (.ireturn, 1) := by decide +kernel
def zm_Ref_rule : zg_M := (⟨"SurrogateTreeModel", "rule", "(II)I"⟩, prog_13_method_30_code, 3, (some .int))
theorem zd_Ref_rule_0 : decode prog_13_method_30_code 0 = .ok (.aload_n 0, 1) := by decide +kernel
theorem zd_Ref_rule_1 : decode prog_13_method_30_code 1 = .ok (.iload_n 1, 1) := by decide +kernel
theorem zd_Ref_rule_2 : decode prog_13_method_30_code 2 = .ok (.invokevirtual 195, 3) := by decide +kernel
theorem zd_Ref_rule_5 : decode prog_13_method_30_code 5 = .ok (.iconst 2, 1) := by decide +kernel
theorem zd_Ref_rule_6 : decode prog_13_method_30_code 6 = .ok (.if_icmp .ne 12, 3) := by decide +kernel
theorem zd_Ref_rule_9 : decode prog_13_method_30_code 9 = .ok (.iload_n 2, 1) := by decide +kernel
theorem zd_Ref_rule_10 : decode prog_13_method_30_code 10 = .ok (.ifCond .lt 8, 3) := by decide +kernel
theorem zd_Ref_rule_13 : decode prog_13_method_30_code 13 = .ok (.iload_n 2, 1) := by decide +kernel
theorem zd_Ref_rule_14 : decode prog_13_method_30_code 14 = .ok (.iconst 2, 1) := by decide +kernel
theorem zd_Ref_rule_15 : decode prog_13_method_30_code 15 = .ok (.if_icmp .le 5, 3) := by decide +kernel
theorem zd_Ref_rule_18 : decode prog_13_method_30_code 18 = .ok (.iconst (-1), 1) := by decide +kernel
theorem zd_Ref_rule_19 : decode prog_13_method_30_code 19 = .ok (.ireturn, 1) := by decide +kernel
theorem zd_Ref_rule_20 : decode prog_13_method_30_code 20 = .ok (.iload_n 2, 1) := by decide +kernel
theorem zd_Ref_rule_21 : decode prog_13_method_30_code 21 = .ok (.ifCond .ne 10, 3) := by decide +kernel
theorem zd_Ref_rule_24 : decode prog_13_method_30_code 24 = .ok (.aload_n 0, 1) := by decide +kernel
theorem zd_Ref_rule_25 : decode prog_13_method_30_code 25 = .ok (.getfield 35, 3) := by decide +kernel
theorem zd_Ref_rule_28 : decode prog_13_method_30_code 28 = .ok (.iload_n 1, 1) := by decide +kernel
theorem zd_Ref_rule_29 : decode prog_13_method_30_code 29 = .ok (.iaload, 1) := by decide +kernel
theorem zd_Ref_rule_30 : decode prog_13_method_30_code 30 = .ok (.ireturn, 1) := by decide +kernel
theorem zd_Ref_rule_31 : decode prog_13_method_30_code 31 = .ok (.aload_n 0, 1) := by decide +kernel
theorem zd_Ref_rule_32 : decode prog_13_method_30_code 32 = .ok (.iload_n 1, 1) := by decide +kernel
theorem zd_Ref_rule_33 : decode prog_13_method_30_code 33 = .ok (.invokevirtual 158, 3) := by decide +kernel
theorem zd_Ref_rule_36 : decode prog_13_method_30_code 36 = .ok (.iload_n 2, 1) := by decide +kernel
theorem zd_Ref_rule_37 : decode prog_13_method_30_code 37 = .ok (.aload_n 0, 1) := by decide +kernel
theorem zd_Ref_rule_38 : decode prog_13_method_30_code 38 = .ok (.getfield 152, 3) := by decide +kernel
theorem zd_Ref_rule_41 : decode prog_13_method_30_code 41 = .ok (.if_icmp .le 7, 3) := by decide +kernel
theorem zd_Ref_rule_44 : decode prog_13_method_30_code 44 = .ok (.iconst (-1), 1) := by decide +kernel
theorem zd_Ref_rule_45 : decode prog_13_method_30_code 45 = .ok (.goto 34, 3) := by decide +kernel
theorem zd_Ref_rule_48 : decode prog_13_method_30_code 48 = .ok (.aload_n 0, 1) := by decide +kernel
theorem zd_Ref_rule_49 : decode prog_13_method_30_code 49 = .ok (.getfield 41, 3) := by decide +kernel
theorem zd_Ref_rule_52 : decode prog_13_method_30_code 52 = .ok (.iload_n 2, 1) := by decide +kernel
theorem zd_Ref_rule_53 : decode prog_13_method_30_code 53 = .ok (.iconst 1, 1) := by decide +kernel
theorem zd_Ref_rule_54 : decode prog_13_method_30_code 54 = .ok (.isub, 1) := by decide +kernel
theorem zd_Ref_rule_55 : decode prog_13_method_30_code 55 = .ok (.iaload, 1) := by decide +kernel
theorem zd_Ref_rule_56 : decode prog_13_method_30_code 56 = .ok (.iconst 4, 1) := by decide +kernel
theorem zd_Ref_rule_57 : decode prog_13_method_30_code 57 = .ok (.aload_n 0, 1) := by decide +kernel
theorem zd_Ref_rule_58 : decode prog_13_method_30_code 58 = .ok (.getfield 47, 3) := by decide +kernel
theorem zd_Ref_rule_61 : decode prog_13_method_30_code 61 = .ok (.iload_n 2, 1) := by decide +kernel
theorem zd_Ref_rule_62 : decode prog_13_method_30_code 62 = .ok (.iconst 1, 1) := by decide +kernel
theorem zd_Ref_rule_63 : decode prog_13_method_30_code 63 = .ok (.isub, 1) := by decide +kernel
theorem zd_Ref_rule_64 : decode prog_13_method_30_code 64 = .ok (.iaload, 1) := by decide +kernel
theorem zd_Ref_rule_65 : decode prog_13_method_30_code 65 = .ok (.imul, 1) := by decide +kernel
theorem zd_Ref_rule_66 : decode prog_13_method_30_code 66 = .ok (.iadd, 1) := by decide +kernel
theorem zd_Ref_rule_67 : decode prog_13_method_30_code 67 = .ok (.bipush 8, 2) := by decide +kernel
theorem zd_Ref_rule_69 : decode prog_13_method_30_code 69 = .ok (.aload_n 0, 1) := by decide +kernel
theorem zd_Ref_rule_70 : decode prog_13_method_30_code 70 = .ok (.getfield 50, 3) := by decide +kernel
theorem zd_Ref_rule_73 : decode prog_13_method_30_code 73 = .ok (.iload_n 2, 1) := by decide +kernel
theorem zd_Ref_rule_74 : decode prog_13_method_30_code 74 = .ok (.iconst 1, 1) := by decide +kernel
theorem zd_Ref_rule_75 : decode prog_13_method_30_code 75 = .ok (.isub, 1) := by decide +kernel
theorem zd_Ref_rule_76 : decode prog_13_method_30_code 76 = .ok (.iaload, 1) := by decide +kernel
theorem zd_Ref_rule_77 : decode prog_13_method_30_code 77 = .ok (.imul, 1) := by decide +kernel
theorem zd_Ref_rule_78 : decode prog_13_method_30_code 78 = .ok (.iadd, 1) := by decide +kernel
theorem zd_Ref_rule_79 : decode prog_13_method_30_code 79 = .ok (.ireturn, 1) := by decide +kernel
def zm_Ref_threshold : zg_M := (⟨"SurrogateTreeModel", "threshold", "(II)I"⟩, prog_13_method_31_code, 3, (some .int))
theorem zd_Ref_threshold_0 : decode prog_13_method_31_code 0 = .ok (.aload_n 0, 1) := by decide +kernel
theorem zd_Ref_threshold_1 : decode prog_13_method_31_code 1 = .ok (.iload_n 1, 1) := by decide +kernel
theorem zd_Ref_threshold_2 : decode prog_13_method_31_code 2 = .ok (.iload_n 2, 1) := by decide +kernel
theorem zd_Ref_threshold_3 : decode prog_13_method_31_code 3 = .ok (.invokevirtual 198, 3) := by decide +kernel
theorem zd_Ref_threshold_6 : decode prog_13_method_31_code 6 = .ok (.ifCond .ge 5, 3) := by decide +kernel
theorem zd_Ref_threshold_9 : decode prog_13_method_31_code 9 = .ok (.iconst 0, 1) := by decide +kernel
theorem zd_Ref_threshold_10 : decode prog_13_method_31_code 10 = .ok (.ireturn, 1) := by decide +kernel
theorem zd_Ref_threshold_11 : decode prog_13_method_31_code 11 = .ok (.iload_n 2, 1) := by decide +kernel
theorem zd_Ref_threshold_12 : decode prog_13_method_31_code 12 = .ok (.ifCond .ne 10, 3) := by decide +kernel
theorem zd_Ref_threshold_15 : decode prog_13_method_31_code 15 = .ok (.aload_n 0, 1) := by decide +kernel
theorem zd_Ref_threshold_16 : decode prog_13_method_31_code 16 = .ok (.getfield 38, 3) := by decide +kernel
theorem zd_Ref_threshold_19 : decode prog_13_method_31_code 19 = .ok (.iload_n 1, 1) := by decide +kernel
theorem zd_Ref_threshold_20 : decode prog_13_method_31_code 20 = .ok (.iaload, 1) := by decide +kernel
theorem zd_Ref_threshold_21 : decode prog_13_method_31_code 21 = .ok (.ireturn, 1) := by decide +kernel
theorem zd_Ref_threshold_22 : decode prog_13_method_31_code 22 = .ok (.aload_n 0, 1) := by decide +kernel
theorem zd_Ref_threshold_23 : decode prog_13_method_31_code 23 = .ok (.iload_n 1, 1) := by decide +kernel
theorem zd_Ref_threshold_24 : decode prog_13_method_31_code 24 = .ok (.invokevirtual 158, 3) := by decide +kernel
theorem zd_Ref_threshold_27 : decode prog_13_method_31_code 27 = .ok (.aload_n 0, 1) := by decide +kernel
theorem zd_Ref_threshold_28 : decode prog_13_method_31_code 28 = .ok (.getfield 44, 3) := by decide +kernel
theorem zd_Ref_threshold_31 : decode prog_13_method_31_code 31 = .ok (.iload_n 2, 1) := by decide +kernel
theorem zd_Ref_threshold_32 : decode prog_13_method_31_code 32 = .ok (.iconst 1, 1) := by decide +kernel
theorem zd_Ref_threshold_33 : decode prog_13_method_31_code 33 = .ok (.isub, 1) := by decide +kernel
theorem zd_Ref_threshold_34 : decode prog_13_method_31_code 34 = .ok (.iaload, 1) := by decide +kernel
theorem zd_Ref_threshold_35 : decode prog_13_method_31_code 35 = .ok (.ireturn, 1) := by decide +kernel
def zm_Ref_gain : zg_M := (⟨"SurrogateTreeModel", "gain", "(I)J"⟩, prog_13_method_32_code, 5, (some .long))
theorem zd_Ref_gain_0 : decode prog_13_method_32_code 0 = .ok (.aload_n 0, 1) := by decide +kernel
theorem zd_Ref_gain_1 : decode prog_13_method_32_code 1 = .ok (.iload_n 1, 1) := by decide +kernel
theorem zd_Ref_gain_2 : decode prog_13_method_32_code 2 = .ok (.invokevirtual 195, 3) := by decide +kernel
theorem zd_Ref_gain_5 : decode prog_13_method_32_code 5 = .ok (.iconst 2, 1) := by decide +kernel
theorem zd_Ref_gain_6 : decode prog_13_method_32_code 6 = .ok (.if_icmp .eq 5, 3) := by decide +kernel
theorem zd_Ref_gain_9 : decode prog_13_method_32_code 9 = .ok (.lconst 0, 1) := by decide +kernel
theorem zd_Ref_gain_10 : decode prog_13_method_32_code 10 = .ok (.lreturn, 1) := by decide +kernel
theorem zd_Ref_gain_11 : decode prog_13_method_32_code 11 = .ok (.aload_n 0, 1) := by decide +kernel
theorem zd_Ref_gain_12 : decode prog_13_method_32_code 12 = .ok (.aload_n 0, 1) := by decide +kernel
theorem zd_Ref_gain_13 : decode prog_13_method_32_code 13 = .ok (.getfield 32, 3) := by decide +kernel
theorem zd_Ref_gain_16 : decode prog_13_method_32_code 16 = .ok (.iload_n 1, 1) := by decide +kernel
theorem zd_Ref_gain_17 : decode prog_13_method_32_code 17 = .ok (.iaload, 1) := by decide +kernel
theorem zd_Ref_gain_18 : decode prog_13_method_32_code 18 = .ok (.aload_n 0, 1) := by decide +kernel
theorem zd_Ref_gain_19 : decode prog_13_method_32_code 19 = .ok (.getfield 35, 3) := by decide +kernel
theorem zd_Ref_gain_22 : decode prog_13_method_32_code 22 = .ok (.iload_n 1, 1) := by decide +kernel
theorem zd_Ref_gain_23 : decode prog_13_method_32_code 23 = .ok (.iaload, 1) := by decide +kernel
theorem zd_Ref_gain_24 : decode prog_13_method_32_code 24 = .ok (.invokevirtual 118, 3) := by decide +kernel
theorem zd_Ref_gain_27 : decode prog_13_method_32_code 27 = .ok (.istore_n 2, 1) := by decide +kernel
theorem zd_Ref_gain_28 : decode prog_13_method_32_code 28 = .ok (.aload_n 0, 1) := by decide +kernel
theorem zd_Ref_gain_29 : decode prog_13_method_32_code 29 = .ok (.iload_n 2, 1) := by decide +kernel
theorem zd_Ref_gain_30 : decode prog_13_method_32_code 30 = .ok (.aload_n 0, 1) := by decide +kernel
theorem zd_Ref_gain_31 : decode prog_13_method_32_code 31 = .ok (.getfield 35, 3) := by decide +kernel
theorem zd_Ref_gain_34 : decode prog_13_method_32_code 34 = .ok (.iload_n 1, 1) := by decide +kernel
theorem zd_Ref_gain_35 : decode prog_13_method_32_code 35 = .ok (.iaload, 1) := by decide +kernel
theorem zd_Ref_gain_36 : decode prog_13_method_32_code 36 = .ok (.aload_n 0, 1) := by decide +kernel
theorem zd_Ref_gain_37 : decode prog_13_method_32_code 37 = .ok (.getfield 38, 3) := by decide +kernel
theorem zd_Ref_gain_40 : decode prog_13_method_32_code 40 = .ok (.iload_n 1, 1) := by decide +kernel
theorem zd_Ref_gain_41 : decode prog_13_method_32_code 41 = .ok (.iaload, 1) := by decide +kernel
theorem zd_Ref_gain_42 : decode prog_13_method_32_code 42 = .ok (.invokevirtual 129, 3) := by decide +kernel
theorem zd_Ref_gain_45 : decode prog_13_method_32_code 45 = .ok (.istore_n 3, 1) := by decide +kernel
theorem zd_Ref_gain_46 : decode prog_13_method_32_code 46 = .ok (.aload_n 0, 1) := by decide +kernel
theorem zd_Ref_gain_47 : decode prog_13_method_32_code 47 = .ok (.iload_n 3, 1) := by decide +kernel
theorem zd_Ref_gain_48 : decode prog_13_method_32_code 48 = .ok (.iload_n 2, 1) := by decide +kernel
theorem zd_Ref_gain_49 : decode prog_13_method_32_code 49 = .ok (.iload_n 3, 1) := by decide +kernel
theorem zd_Ref_gain_50 : decode prog_13_method_32_code 50 = .ok (.iconst (-1), 1) := by decide +kernel
theorem zd_Ref_gain_51 : decode prog_13_method_32_code 51 = .ok (.ixor, 1) := by decide +kernel
theorem zd_Ref_gain_52 : decode prog_13_method_32_code 52 = .ok (.iand, 1) := by decide +kernel
theorem zd_Ref_gain_53 : decode prog_13_method_32_code 53 = .ok (.invokevirtual 132, 3) := by decide +kernel
theorem zd_Ref_gain_56 : decode prog_13_method_32_code 56 = .ok (.aload_n 0, 1) := by decide +kernel
theorem zd_Ref_gain_57 : decode prog_13_method_32_code 57 = .ok (.getfield 112, 3) := by decide +kernel
theorem zd_Ref_gain_60 : decode prog_13_method_32_code 60 = .ok (.istore 4, 2) := by decide +kernel
theorem zd_Ref_gain_62 : decode prog_13_method_32_code 62 = .ok (.iload 4, 2) := by decide +kernel
theorem zd_Ref_gain_64 : decode prog_13_method_32_code 64 = .ok (.iconst 1, 1) := by decide +kernel
theorem zd_Ref_gain_65 : decode prog_13_method_32_code 65 = .ok (.if_icmp .le 51, 3) := by decide +kernel
theorem zd_Ref_gain_68 : decode prog_13_method_32_code 68 = .ok (.aload_n 0, 1) := by decide +kernel
theorem zd_Ref_gain_69 : decode prog_13_method_32_code 69 = .ok (.getfield 109, 3) := by decide +kernel
theorem zd_Ref_gain_72 : decode prog_13_method_32_code 72 = .ok (.iload 4, 2) := by decide +kernel
theorem zd_Ref_gain_74 : decode prog_13_method_32_code 74 = .ok (.irem, 1) := by decide +kernel
theorem zd_Ref_gain_75 : decode prog_13_method_32_code 75 = .ok (.ifCond .ne 35, 3) := by decide +kernel
theorem zd_Ref_gain_78 : decode prog_13_method_32_code 78 = .ok (.aload_n 0, 1) := by decide +kernel
theorem zd_Ref_gain_79 : decode prog_13_method_32_code 79 = .ok (.getfield 112, 3) := by decide +kernel
theorem zd_Ref_gain_82 : decode prog_13_method_32_code 82 = .ok (.iload 4, 2) := by decide +kernel
theorem zd_Ref_gain_84 : decode prog_13_method_32_code 84 = .ok (.irem, 1) := by decide +kernel
theorem zd_Ref_gain_85 : decode prog_13_method_32_code 85 = .ok (.ifCond .ne 25, 3) := by decide +kernel
theorem zd_Ref_gain_88 : decode prog_13_method_32_code 88 = .ok (.aload_n 0, 1) := by decide +kernel
theorem zd_Ref_gain_89 : decode prog_13_method_32_code 89 = .ok (.aload_n 0, 1) := by decide +kernel
theorem zd_Ref_gain_90 : decode prog_13_method_32_code 90 = .ok (.getfield 109, 3) := by decide +kernel
theorem zd_Ref_gain_93 : decode prog_13_method_32_code 93 = .ok (.iload 4, 2) := by decide +kernel
theorem zd_Ref_gain_95 : decode prog_13_method_32_code 95 = .ok (.idiv, 1) := by decide +kernel
theorem zd_Ref_gain_96 : decode prog_13_method_32_code 96 = .ok (.putfield 109, 3) := by decide +kernel
theorem zd_Ref_gain_99 : decode prog_13_method_32_code 99 = .ok (.aload_n 0, 1) := by decide +kernel
theorem zd_Ref_gain_100 : decode prog_13_method_32_code 100 = .ok (.aload_n 0, 1) := by decide +kernel
theorem zd_Ref_gain_101 : decode prog_13_method_32_code 101 = .ok (.getfield 112, 3) := by decide +kernel
theorem zd_Ref_gain_104 : decode prog_13_method_32_code 104 = .ok (.iload 4, 2) := by decide +kernel
theorem zd_Ref_gain_106 : decode prog_13_method_32_code 106 = .ok (.idiv, 1) := by decide +kernel
theorem zd_Ref_gain_107 : decode prog_13_method_32_code 107 = .ok (.putfield 112, 3) := by decide +kernel
theorem zd_Ref_gain_110 : decode prog_13_method_32_code 110 = .ok (.iinc 4 (-1), 3) := by decide +kernel
theorem zd_Ref_gain_113 : decode prog_13_method_32_code 113 = .ok (.goto (-51), 3) := by decide +kernel
theorem zd_Ref_gain_116 : decode prog_13_method_32_code 116 = .ok (.aload_n 0, 1) := by decide +kernel
theorem zd_Ref_gain_117 : decode prog_13_method_32_code 117 = .ok (.getfield 109, 3) := by decide +kernel
theorem zd_Ref_gain_120 : decode prog_13_method_32_code 120 = .ok (.i2l, 1) := by decide +kernel
theorem zd_Ref_gain_121 : decode prog_13_method_32_code 121 = .ok (.ldc2_w 201, 3) := by decide +kernel
theorem zd_Ref_gain_124 : decode prog_13_method_32_code 124 = .ok (.lmul, 1) := by decide +kernel
theorem zd_Ref_gain_125 : decode prog_13_method_32_code 125 = .ok (.aload_n 0, 1) := by decide +kernel
theorem zd_Ref_gain_126 : decode prog_13_method_32_code 126 = .ok (.getfield 112, 3) := by decide +kernel
theorem zd_Ref_gain_129 : decode prog_13_method_32_code 129 = .ok (.i2l, 1) := by decide +kernel
theorem zd_Ref_gain_130 : decode prog_13_method_32_code 130 = .ok (.ladd, 1) := by decide +kernel
theorem zd_Ref_gain_131 : decode prog_13_method_32_code 131 = .ok (.lreturn, 1) := by decide +kernel
def zm_Ref_rowsOf : zg_M := (⟨"SurrogateTreeModel", "rowsOf", "(I)I"⟩, prog_13_method_33_code, 2, (some .int))
theorem zd_Ref_rowsOf_0 : decode prog_13_method_33_code 0 = .ok (.aload_n 0, 1) := by decide +kernel
theorem zd_Ref_rowsOf_1 : decode prog_13_method_33_code 1 = .ok (.iload_n 1, 1) := by decide +kernel
theorem zd_Ref_rowsOf_2 : decode prog_13_method_33_code 2 = .ok (.invokevirtual 195, 3) := by decide +kernel
theorem zd_Ref_rowsOf_5 : decode prog_13_method_33_code 5 = .ok (.ifCond .ge 7, 3) := by decide +kernel
theorem zd_Ref_rowsOf_8 : decode prog_13_method_33_code 8 = .ok (.iconst (-1), 1) := by decide +kernel
theorem zd_Ref_rowsOf_9 : decode prog_13_method_33_code 9 = .ok (.goto 9, 3) := by decide +kernel
theorem zd_Ref_rowsOf_12 : decode prog_13_method_33_code 12 = .ok (.aload_n 0, 1) := by decide +kernel
theorem zd_Ref_rowsOf_13 : decode prog_13_method_33_code 13 = .ok (.getfield 32, 3) := by decide +kernel
theorem zd_Ref_rowsOf_16 : decode prog_13_method_33_code 16 = .ok (.iload_n 1, 1) := by decide +kernel
theorem zd_Ref_rowsOf_17 : decode prog_13_method_33_code 17 = .ok (.iaload, 1) := by decide +kernel
theorem zd_Ref_rowsOf_18 : decode prog_13_method_33_code 18 = .ok (.ireturn, 1) := by decide +kernel
def zm_Ref_classOf : zg_M := (⟨"SurrogateTreeModel", "classOf", "(I)I"⟩, prog_13_method_34_code, 2, (some .int))
theorem zd_Ref_classOf_0 : decode prog_13_method_34_code 0 = .ok (.aload_n 0, 1) := by decide +kernel
theorem zd_Ref_classOf_1 : decode prog_13_method_34_code 1 = .ok (.iload_n 1, 1) := by decide +kernel
theorem zd_Ref_classOf_2 : decode prog_13_method_34_code 2 = .ok (.invokevirtual 195, 3) := by decide +kernel
theorem zd_Ref_classOf_5 : decode prog_13_method_34_code 5 = .ok (.ifCond .ge 7, 3) := by decide +kernel
theorem zd_Ref_classOf_8 : decode prog_13_method_34_code 8 = .ok (.iconst (-1), 1) := by decide +kernel
theorem zd_Ref_classOf_9 : decode prog_13_method_34_code 9 = .ok (.goto 13, 3) := by decide +kernel
theorem zd_Ref_classOf_12 : decode prog_13_method_34_code 12 = .ok (.aload_n 0, 1) := by decide +kernel
theorem zd_Ref_classOf_13 : decode prog_13_method_34_code 13 = .ok (.aload_n 0, 1) := by decide +kernel
theorem zd_Ref_classOf_14 : decode prog_13_method_34_code 14 = .ok (.getfield 32, 3) := by decide +kernel
theorem zd_Ref_classOf_17 : decode prog_13_method_34_code 17 = .ok (.iload_n 1, 1) := by decide +kernel
theorem zd_Ref_classOf_18 : decode prog_13_method_34_code 18 = .ok (.iaload, 1) := by decide +kernel
theorem zd_Ref_classOf_19 : decode prog_13_method_34_code 19 = .ok (.invokevirtual 102, 3) := by decide +kernel
theorem zd_Ref_classOf_22 : decode prog_13_method_34_code 22 = .ok (.ireturn, 1) := by decide +kernel
def zm_Ref_error : zg_M := (⟨"SurrogateTreeModel", "error", "(I)I"⟩, prog_13_method_35_code, 2, (some .int))
theorem zd_Ref_error_0 : decode prog_13_method_35_code 0 = .ok (.aload_n 0, 1) := by decide +kernel
theorem zd_Ref_error_1 : decode prog_13_method_35_code 1 = .ok (.iload_n 1, 1) := by decide +kernel
theorem zd_Ref_error_2 : decode prog_13_method_35_code 2 = .ok (.invokevirtual 195, 3) := by decide +kernel
theorem zd_Ref_error_5 : decode prog_13_method_35_code 5 = .ok (.ifCond .ge 7, 3) := by decide +kernel
theorem zd_Ref_error_8 : decode prog_13_method_35_code 8 = .ok (.iconst (-1), 1) := by decide +kernel
theorem zd_Ref_error_9 : decode prog_13_method_35_code 9 = .ok (.goto 13, 3) := by decide +kernel
theorem zd_Ref_error_12 : decode prog_13_method_35_code 12 = .ok (.aload_n 0, 1) := by decide +kernel
theorem zd_Ref_error_13 : decode prog_13_method_35_code 13 = .ok (.aload_n 0, 1) := by decide +kernel
theorem zd_Ref_error_14 : decode prog_13_method_35_code 14 = .ok (.getfield 32, 3) := by decide +kernel
theorem zd_Ref_error_17 : decode prog_13_method_35_code 17 = .ok (.iload_n 1, 1) := by decide +kernel
theorem zd_Ref_error_18 : decode prog_13_method_35_code 18 = .ok (.iaload, 1) := by decide +kernel
theorem zd_Ref_error_19 : decode prog_13_method_35_code 19 = .ok (.invokevirtual 180, 3) := by decide +kernel
theorem zd_Ref_error_22 : decode prog_13_method_35_code 22 = .ok (.ireturn, 1) := by decide +kernel
def zm_Ref_reach : zg_M := (⟨"SurrogateTreeModel", "reach", "(III)I"⟩, prog_13_method_36_code, 6, (some .int))
theorem zd_Ref_reach_0 : decode prog_13_method_36_code 0 = .ok (.iconst 1, 1) := by decide +kernel
theorem zd_Ref_reach_1 : decode prog_13_method_36_code 1 = .ok (.istore 4, 2) := by decide +kernel
theorem zd_Ref_reach_3 : decode prog_13_method_36_code 3 = .ok (.iconst 0, 1) := by decide +kernel
theorem zd_Ref_reach_4 : decode prog_13_method_36_code 4 = .ok (.istore 5, 2) := by decide +kernel
theorem zd_Ref_reach_6 : decode prog_13_method_36_code 6 = .ok (.iload 5, 2) := by decide +kernel
theorem zd_Ref_reach_8 : decode prog_13_method_36_code 8 = .ok (.iconst 5, 1) := by decide +kernel
theorem zd_Ref_reach_9 : decode prog_13_method_36_code 9 = .ok (.if_icmp .ge 30, 3) := by decide +kernel
theorem zd_Ref_reach_12 : decode prog_13_method_36_code 12 = .ok (.aload_n 0, 1) := by decide +kernel
theorem zd_Ref_reach_13 : decode prog_13_method_36_code 13 = .ok (.iload 4, 2) := by decide +kernel
theorem zd_Ref_reach_15 : decode prog_13_method_36_code 15 = .ok (.invokevirtual 195, 3) := by decide +kernel
theorem zd_Ref_reach_18 : decode prog_13_method_36_code 18 = .ok (.iconst 2, 1) := by decide +kernel
theorem zd_Ref_reach_19 : decode prog_13_method_36_code 19 = .ok (.if_icmp .ne 20, 3) := by decide +kernel
theorem zd_Ref_reach_22 : decode prog_13_method_36_code 22 = .ok (.aload_n 0, 1) := by decide +kernel
theorem zd_Ref_reach_23 : decode prog_13_method_36_code 23 = .ok (.iload 4, 2) := by decide +kernel
theorem zd_Ref_reach_25 : decode prog_13_method_36_code 25 = .ok (.iload_n 1, 1) := by decide +kernel
theorem zd_Ref_reach_26 : decode prog_13_method_36_code 26 = .ok (.iload_n 2, 1) := by decide +kernel
theorem zd_Ref_reach_27 : decode prog_13_method_36_code 27 = .ok (.iload_n 3, 1) := by decide +kernel
theorem zd_Ref_reach_28 : decode prog_13_method_36_code 28 = .ok (.invokevirtual 169, 3) := by decide +kernel
theorem zd_Ref_reach_31 : decode prog_13_method_36_code 31 = .ok (.istore 4, 2) := by decide +kernel
theorem zd_Ref_reach_33 : decode prog_13_method_36_code 33 = .ok (.iinc 5 1, 3) := by decide +kernel
theorem zd_Ref_reach_36 : decode prog_13_method_36_code 36 = .ok (.goto (-30), 3) := by decide +kernel
theorem zd_Ref_reach_39 : decode prog_13_method_36_code 39 = .ok (.iload 4, 2) := by decide +kernel
theorem zd_Ref_reach_41 : decode prog_13_method_36_code 41 = .ok (.ireturn, 1) := by decide +kernel
def zm_Ref_cut : zg_M := (⟨"SurrogateTreeModel", "cut", "(II)I"⟩, prog_13_method_37_code, 5, (some .int))
theorem zd_Ref_cut_0 : decode prog_13_method_37_code 0 = .ok (.aload_n 0, 1) := by decide +kernel
theorem zd_Ref_cut_1 : decode prog_13_method_37_code 1 = .ok (.invokevirtual 173, 3) := by decide +kernel
theorem zd_Ref_cut_4 : decode prog_13_method_37_code 4 = .ok (.ifCond .gt 25, 3) := by decide +kernel
theorem zd_Ref_cut_7 : decode prog_13_method_37_code 7 = .ok (.iload_n 1, 1) := by decide +kernel
theorem zd_Ref_cut_8 : decode prog_13_method_37_code 8 = .ok (.ifCond .lt 21, 3) := by decide +kernel
theorem zd_Ref_cut_11 : decode prog_13_method_37_code 11 = .ok (.iload_n 1, 1) := by decide +kernel
theorem zd_Ref_cut_12 : decode prog_13_method_37_code 12 = .ok (.sipush 1000, 3) := by decide +kernel
theorem zd_Ref_cut_15 : decode prog_13_method_37_code 15 = .ok (.if_icmp .gt 14, 3) := by decide +kernel
theorem zd_Ref_cut_18 : decode prog_13_method_37_code 18 = .ok (.iload_n 2, 1) := by decide +kernel
theorem zd_Ref_cut_19 : decode prog_13_method_37_code 19 = .ok (.ifCond .lt 10, 3) := by decide +kernel
theorem zd_Ref_cut_22 : decode prog_13_method_37_code 22 = .ok (.iload_n 2, 1) := by decide +kernel
theorem zd_Ref_cut_23 : decode prog_13_method_37_code 23 = .ok (.sipush 1000, 3) := by decide +kernel
theorem zd_Ref_cut_26 : decode prog_13_method_37_code 26 = .ok (.if_icmp .le 5, 3) := by decide +kernel
theorem zd_Ref_cut_29 : decode prog_13_method_37_code 29 = .ok (.iconst (-1), 1) := by decide +kernel
theorem zd_Ref_cut_30 : decode prog_13_method_37_code 30 = .ok (.ireturn, 1) := by decide +kernel
theorem zd_Ref_cut_31 : decode prog_13_method_37_code 31 = .ok (.aload_n 0, 1) := by decide +kernel
theorem zd_Ref_cut_32 : decode prog_13_method_37_code 32 = .ok (.iload_n 2, 1) := by decide +kernel
theorem zd_Ref_cut_33 : decode prog_13_method_37_code 33 = .ok (.ifCond .le 7, 3) := by decide +kernel
theorem zd_Ref_cut_36 : decode prog_13_method_37_code 36 = .ok (.iconst 1, 1) := by decide +kernel
theorem zd_Ref_cut_37 : decode prog_13_method_37_code 37 = .ok (.goto 4, 3) := by decide +kernel
theorem zd_Ref_cut_40 : decode prog_13_method_37_code 40 = .ok (.iconst 0, 1) := by decide +kernel
theorem zd_Ref_cut_41 : decode prog_13_method_37_code 41 = .ok (.putfield 79, 3) := by decide +kernel
theorem zd_Ref_cut_44 : decode prog_13_method_37_code 44 = .ok (.aload_n 0, 1) := by decide +kernel
theorem zd_Ref_cut_45 : decode prog_13_method_37_code 45 = .ok (.iload_n 1, 1) := by decide +kernel
theorem zd_Ref_cut_46 : decode prog_13_method_37_code 46 = .ok (.putfield 186, 3) := by decide +kernel
theorem zd_Ref_cut_49 : decode prog_13_method_37_code 49 = .ok (.aload_n 0, 1) := by decide +kernel
theorem zd_Ref_cut_50 : decode prog_13_method_37_code 50 = .ok (.iload_n 2, 1) := by decide +kernel
theorem zd_Ref_cut_51 : decode prog_13_method_37_code 51 = .ok (.putfield 189, 3) := by decide +kernel
theorem zd_Ref_cut_54 : decode prog_13_method_37_code 54 = .ok (.iconst 0, 1) := by decide +kernel
theorem zd_Ref_cut_55 : decode prog_13_method_37_code 55 = .ok (.istore_n 3, 1) := by decide +kernel
theorem zd_Ref_cut_56 : decode prog_13_method_37_code 56 = .ok (.iconst 1, 1) := by decide +kernel
theorem zd_Ref_cut_57 : decode prog_13_method_37_code 57 = .ok (.istore 4, 2) := by decide +kernel
theorem zd_Ref_cut_59 : decode prog_13_method_37_code 59 = .ok (.iload 4, 2) := by decide +kernel
theorem zd_Ref_cut_61 : decode prog_13_method_37_code 61 = .ok (.bipush 32, 2) := by decide +kernel
theorem zd_Ref_cut_63 : decode prog_13_method_37_code 63 = .ok (.if_icmp .ge 27, 3) := by decide +kernel
theorem zd_Ref_cut_66 : decode prog_13_method_37_code 66 = .ok (.aload_n 0, 1) := by decide +kernel
theorem zd_Ref_cut_67 : decode prog_13_method_37_code 67 = .ok (.iload 4, 2) := by decide +kernel
theorem zd_Ref_cut_69 : decode prog_13_method_37_code 69 = .ok (.invokevirtual 195, 3) := by decide +kernel
theorem zd_Ref_cut_72 : decode prog_13_method_37_code 72 = .ok (.iconst 1, 1) := by decide +kernel
theorem zd_Ref_cut_73 : decode prog_13_method_37_code 73 = .ok (.if_icmp .ne 9, 3) := by decide +kernel
theorem zd_Ref_cut_76 : decode prog_13_method_37_code 76 = .ok (.iload_n 3, 1) := by decide +kernel
theorem zd_Ref_cut_77 : decode prog_13_method_37_code 77 = .ok (.iconst 1, 1) := by decide +kernel
theorem zd_Ref_cut_78 : decode prog_13_method_37_code 78 = .ok (.iadd, 1) := by decide +kernel
theorem zd_Ref_cut_79 : decode prog_13_method_37_code 79 = .ok (.goto 4, 3) := by decide +kernel
theorem zd_Ref_cut_82 : decode prog_13_method_37_code 82 = .ok (.iload_n 3, 1) := by decide +kernel
theorem zd_Ref_cut_83 : decode prog_13_method_37_code 83 = .ok (.istore_n 3, 1) := by decide +kernel
theorem zd_Ref_cut_84 : decode prog_13_method_37_code 84 = .ok (.iinc 4 1, 3) := by decide +kernel
theorem zd_Ref_cut_87 : decode prog_13_method_37_code 87 = .ok (.goto (-28), 3) := by decide +kernel
theorem zd_Ref_cut_90 : decode prog_13_method_37_code 90 = .ok (.iload_n 3, 1) := by decide +kernel
theorem zd_Ref_cut_91 : decode prog_13_method_37_code 91 = .ok (.ireturn, 1) := by decide +kernel
def zm_Ref_breakAt : zg_M := (⟨"SurrogateTreeModel", "breakAt", "(I)I"⟩, prog_13_method_41_code, 4, (some .int))
theorem zd_Ref_breakAt_0 : decode prog_13_method_41_code 0 = .ok (.aload_n 0, 1) := by decide +kernel
theorem zd_Ref_breakAt_1 : decode prog_13_method_41_code 1 = .ok (.invokevirtual 173, 3) := by decide +kernel
theorem zd_Ref_breakAt_4 : decode prog_13_method_41_code 4 = .ok (.ifCond .le 5, 3) := by decide +kernel
theorem zd_Ref_breakAt_7 : decode prog_13_method_41_code 7 = .ok (.iconst (-1), 1) := by decide +kernel
theorem zd_Ref_breakAt_8 : decode prog_13_method_41_code 8 = .ok (.ireturn, 1) := by decide +kernel
theorem zd_Ref_breakAt_9 : decode prog_13_method_41_code 9 = .ok (.aload_n 0, 1) := by decide +kernel
theorem zd_Ref_breakAt_10 : decode prog_13_method_41_code 10 = .ok (.invokevirtual 183, 3) := by decide +kernel
theorem zd_Ref_breakAt_13 : decode prog_13_method_41_code 13 = .ok (.aload_n 0, 1) := by decide +kernel
theorem zd_Ref_breakAt_14 : decode prog_13_method_41_code 14 = .ok (.iconst 0, 1) := by decide +kernel
theorem zd_Ref_breakAt_15 : decode prog_13_method_41_code 15 = .ok (.putfield 203, 3) := by decide +kernel
theorem zd_Ref_breakAt_18 : decode prog_13_method_41_code 18 = .ok (.iconst 1, 1) := by decide +kernel
theorem zd_Ref_breakAt_19 : decode prog_13_method_41_code 19 = .ok (.istore_n 2, 1) := by decide +kernel
theorem zd_Ref_breakAt_20 : decode prog_13_method_41_code 20 = .ok (.iload_n 2, 1) := by decide +kernel
theorem zd_Ref_breakAt_21 : decode prog_13_method_41_code 21 = .ok (.bipush 16, 2) := by decide +kernel
theorem zd_Ref_breakAt_23 : decode prog_13_method_41_code 23 = .ok (.if_icmp .gt 46, 3) := by decide +kernel
theorem zd_Ref_breakAt_26 : decode prog_13_method_41_code 26 = .ok (.iconst 1, 1) := by decide +kernel
theorem zd_Ref_breakAt_27 : decode prog_13_method_41_code 27 = .ok (.istore_n 3, 1) := by decide +kernel
theorem zd_Ref_breakAt_28 : decode prog_13_method_41_code 28 = .ok (.iload_n 3, 1) := by decide +kernel
theorem zd_Ref_breakAt_29 : decode prog_13_method_41_code 29 = .ok (.bipush 15, 2) := by decide +kernel
theorem zd_Ref_breakAt_31 : decode prog_13_method_41_code 31 = .ok (.if_icmp .gt 32, 3) := by decide +kernel
theorem zd_Ref_breakAt_34 : decode prog_13_method_41_code 34 = .ok (.iload_n 2, 1) := by decide +kernel
theorem zd_Ref_breakAt_35 : decode prog_13_method_41_code 35 = .ok (.iload_n 3, 1) := by decide +kernel
theorem zd_Ref_breakAt_36 : decode prog_13_method_41_code 36 = .ok (.invokestatic 206, 3) := by decide +kernel
theorem zd_Ref_breakAt_39 : decode prog_13_method_41_code 39 = .ok (.ifCond .eq 18, 3) := by decide +kernel
theorem zd_Ref_breakAt_42 : decode prog_13_method_41_code 42 = .ok (.aload_n 0, 1) := by decide +kernel
theorem zd_Ref_breakAt_43 : decode prog_13_method_41_code 43 = .ok (.iload_n 2, 1) := by decide +kernel
theorem zd_Ref_breakAt_44 : decode prog_13_method_41_code 44 = .ok (.iload_n 3, 1) := by decide +kernel
theorem zd_Ref_breakAt_45 : decode prog_13_method_41_code 45 = .ok (.invokevirtual 209, 3) := by decide +kernel
theorem zd_Ref_breakAt_48 : decode prog_13_method_41_code 48 = .ok (.ifCond .eq 9, 3) := by decide +kernel
theorem zd_Ref_breakAt_51 : decode prog_13_method_41_code 51 = .ok (.aload_n 0, 1) := by decide +kernel
theorem zd_Ref_breakAt_52 : decode prog_13_method_41_code 52 = .ok (.iload_n 2, 1) := by decide +kernel
theorem zd_Ref_breakAt_53 : decode prog_13_method_41_code 53 = .ok (.iload_n 3, 1) := by decide +kernel
theorem zd_Ref_breakAt_54 : decode prog_13_method_41_code 54 = .ok (.invokevirtual 212, 3) := by decide +kernel
theorem zd_Ref_breakAt_57 : decode prog_13_method_41_code 57 = .ok (.iinc 3 1, 3) := by decide +kernel
theorem zd_Ref_breakAt_60 : decode prog_13_method_41_code 60 = .ok (.goto (-32), 3) := by decide +kernel
theorem zd_Ref_breakAt_63 : decode prog_13_method_41_code 63 = .ok (.iinc 2 1, 3) := by decide +kernel
theorem zd_Ref_breakAt_66 : decode prog_13_method_41_code 66 = .ok (.goto (-46), 3) := by decide +kernel
theorem zd_Ref_breakAt_69 : decode prog_13_method_41_code 69 = .ok (.iload_n 1, 1) := by decide +kernel
theorem zd_Ref_breakAt_70 : decode prog_13_method_41_code 70 = .ok (.ifCond .lt 11, 3) := by decide +kernel
theorem zd_Ref_breakAt_73 : decode prog_13_method_41_code 73 = .ok (.iload_n 1, 1) := by decide +kernel
theorem zd_Ref_breakAt_74 : decode prog_13_method_41_code 74 = .ok (.aload_n 0, 1) := by decide +kernel
theorem zd_Ref_breakAt_75 : decode prog_13_method_41_code 75 = .ok (.getfield 203, 3) := by decide +kernel
theorem zd_Ref_breakAt_78 : decode prog_13_method_41_code 78 = .ok (.if_icmp .lt 7, 3) := by decide +kernel
theorem zd_Ref_breakAt_81 : decode prog_13_method_41_code 81 = .ok (.iconst (-1), 1) := by decide +kernel
theorem zd_Ref_breakAt_82 : decode prog_13_method_41_code 82 = .ok (.goto 19, 3) := by decide +kernel
theorem zd_Ref_breakAt_85 : decode prog_13_method_41_code 85 = .ok (.aload_n 0, 1) := by decide +kernel
theorem zd_Ref_breakAt_86 : decode prog_13_method_41_code 86 = .ok (.getfield 67, 3) := by decide +kernel
theorem zd_Ref_breakAt_89 : decode prog_13_method_41_code 89 = .ok (.iload_n 1, 1) := by decide +kernel
theorem zd_Ref_breakAt_90 : decode prog_13_method_41_code 90 = .ok (.iaload, 1) := by decide +kernel
theorem zd_Ref_breakAt_91 : decode prog_13_method_41_code 91 = .ok (.bipush 32, 2) := by decide +kernel
theorem zd_Ref_breakAt_93 : decode prog_13_method_41_code 93 = .ok (.imul, 1) := by decide +kernel
theorem zd_Ref_breakAt_94 : decode prog_13_method_41_code 94 = .ok (.aload_n 0, 1) := by decide +kernel
theorem zd_Ref_breakAt_95 : decode prog_13_method_41_code 95 = .ok (.getfield 70, 3) := by decide +kernel
theorem zd_Ref_breakAt_98 : decode prog_13_method_41_code 98 = .ok (.iload_n 1, 1) := by decide +kernel
theorem zd_Ref_breakAt_99 : decode prog_13_method_41_code 99 = .ok (.iaload, 1) := by decide +kernel
theorem zd_Ref_breakAt_100 : decode prog_13_method_41_code 100 = .ok (.iadd, 1) := by decide +kernel
theorem zd_Ref_breakAt_101 : decode prog_13_method_41_code 101 = .ok (.ireturn, 1) := by decide +kernel
def zm_Ref_lowest : zg_M := (⟨"SurrogateTreeModel", "lowest", "(II)Z"⟩, prog_13_method_40_code, 4, (some .boolean))
theorem zd_Ref_lowest_0 : decode prog_13_method_40_code 0 = .ok (.iconst 1, 1) := by decide +kernel
theorem zd_Ref_lowest_1 : decode prog_13_method_40_code 1 = .ok (.istore_n 2, 1) := by decide +kernel
theorem zd_Ref_lowest_2 : decode prog_13_method_40_code 2 = .ok (.iconst 2, 1) := by decide +kernel
theorem zd_Ref_lowest_3 : decode prog_13_method_40_code 3 = .ok (.istore_n 3, 1) := by decide +kernel
theorem zd_Ref_lowest_4 : decode prog_13_method_40_code 4 = .ok (.iload_n 3, 1) := by decide +kernel
theorem zd_Ref_lowest_5 : decode prog_13_method_40_code 5 = .ok (.bipush 16, 2) := by decide +kernel
theorem zd_Ref_lowest_7 : decode prog_13_method_40_code 7 = .ok (.if_icmp .gt 31, 3) := by decide +kernel
theorem zd_Ref_lowest_10 : decode prog_13_method_40_code 10 = .ok (.iload_n 2, 1) := by decide +kernel
theorem zd_Ref_lowest_11 : decode prog_13_method_40_code 11 = .ok (.ifCond .eq 19, 3) := by decide +kernel
theorem zd_Ref_lowest_14 : decode prog_13_method_40_code 14 = .ok (.iload_n 0, 1) := by decide +kernel
theorem zd_Ref_lowest_15 : decode prog_13_method_40_code 15 = .ok (.iload_n 3, 1) := by decide +kernel
theorem zd_Ref_lowest_16 : decode prog_13_method_40_code 16 = .ok (.irem, 1) := by decide +kernel
theorem zd_Ref_lowest_17 : decode prog_13_method_40_code 17 = .ok (.ifCond .ne 9, 3) := by decide +kernel
theorem zd_Ref_lowest_20 : decode prog_13_method_40_code 20 = .ok (.iload_n 1, 1) := by decide +kernel
theorem zd_Ref_lowest_21 : decode prog_13_method_40_code 21 = .ok (.iload_n 3, 1) := by decide +kernel
theorem zd_Ref_lowest_22 : decode prog_13_method_40_code 22 = .ok (.irem, 1) := by decide +kernel
theorem zd_Ref_lowest_23 : decode prog_13_method_40_code 23 = .ok (.ifCond .eq 7, 3) := by decide +kernel
theorem zd_Ref_lowest_26 : decode prog_13_method_40_code 26 = .ok (.iconst 1, 1) := by decide +kernel
theorem zd_Ref_lowest_27 : decode prog_13_method_40_code 27 = .ok (.goto 4, 3) := by decide +kernel
theorem zd_Ref_lowest_30 : decode prog_13_method_40_code 30 = .ok (.iconst 0, 1) := by decide +kernel
theorem zd_Ref_lowest_31 : decode prog_13_method_40_code 31 = .ok (.istore_n 2, 1) := by decide +kernel
theorem zd_Ref_lowest_32 : decode prog_13_method_40_code 32 = .ok (.iinc 3 1, 3) := by decide +kernel
theorem zd_Ref_lowest_35 : decode prog_13_method_40_code 35 = .ok (.goto (-31), 3) := by decide +kernel
theorem zd_Ref_lowest_38 : decode prog_13_method_40_code 38 = .ok (.iload_n 2, 1) := by decide +kernel
theorem zd_Ref_lowest_39 : decode prog_13_method_40_code 39 = .ok (.ireturn, 1) := by decide +kernel
def zm_Ref_breaksAt : zg_M := (⟨"SurrogateTreeModel", "breaksAt", "(II)Z"⟩, prog_13_method_38_code, 4, (some .boolean))
theorem zd_Ref_breaksAt_0 : decode prog_13_method_38_code 0 = .ok (.aload_n 0, 1) := by decide +kernel
theorem zd_Ref_breaksAt_1 : decode prog_13_method_38_code 1 = .ok (.iload_n 1, 1) := by decide +kernel
theorem zd_Ref_breaksAt_2 : decode prog_13_method_38_code 2 = .ok (.iload_n 2, 1) := by decide +kernel
theorem zd_Ref_breaksAt_3 : decode prog_13_method_38_code 3 = .ok (.invokevirtual 192, 3) := by decide +kernel
theorem zd_Ref_breaksAt_6 : decode prog_13_method_38_code 6 = .ok (.istore_n 3, 1) := by decide +kernel
theorem zd_Ref_breaksAt_7 : decode prog_13_method_38_code 7 = .ok (.iload_n 3, 1) := by decide +kernel
theorem zd_Ref_breaksAt_8 : decode prog_13_method_38_code 8 = .ok (.aload_n 0, 1) := by decide +kernel
theorem zd_Ref_breaksAt_9 : decode prog_13_method_38_code 9 = .ok (.sipush 1000, 3) := by decide +kernel
theorem zd_Ref_breaksAt_12 : decode prog_13_method_38_code 12 = .ok (.iload_n 1, 1) := by decide +kernel
theorem zd_Ref_breaksAt_13 : decode prog_13_method_38_code 13 = .ok (.imul, 1) := by decide +kernel
theorem zd_Ref_breaksAt_14 : decode prog_13_method_38_code 14 = .ok (.iconst 1, 1) := by decide +kernel
theorem zd_Ref_breaksAt_15 : decode prog_13_method_38_code 15 = .ok (.isub, 1) := by decide +kernel
theorem zd_Ref_breaksAt_16 : decode prog_13_method_38_code 16 = .ok (.sipush 1000, 3) := by decide +kernel
theorem zd_Ref_breaksAt_19 : decode prog_13_method_38_code 19 = .ok (.iload_n 2, 1) := by decide +kernel
theorem zd_Ref_breaksAt_20 : decode prog_13_method_38_code 20 = .ok (.imul, 1) := by decide +kernel
theorem zd_Ref_breaksAt_21 : decode prog_13_method_38_code 21 = .ok (.invokevirtual 192, 3) := by decide +kernel
theorem zd_Ref_breaksAt_24 : decode prog_13_method_38_code 24 = .ok (.if_icmp .ge 7, 3) := by decide +kernel
theorem zd_Ref_breaksAt_27 : decode prog_13_method_38_code 27 = .ok (.iconst 1, 1) := by decide +kernel
theorem zd_Ref_breaksAt_28 : decode prog_13_method_38_code 28 = .ok (.goto 4, 3) := by decide +kernel
theorem zd_Ref_breaksAt_31 : decode prog_13_method_38_code 31 = .ok (.iconst 0, 1) := by decide +kernel
theorem zd_Ref_breaksAt_32 : decode prog_13_method_38_code 32 = .ok (.ireturn, 1) := by decide +kernel
def zm_Ref_insert : zg_M := (⟨"SurrogateTreeModel", "insert", "(II)V"⟩, prog_13_method_39_code, 4, none)
theorem zd_Ref_insert_0 : decode prog_13_method_39_code 0 = .ok (.aload_n 0, 1) := by decide +kernel
theorem zd_Ref_insert_1 : decode prog_13_method_39_code 1 = .ok (.getfield 203, 3) := by decide +kernel
theorem zd_Ref_insert_4 : decode prog_13_method_39_code 4 = .ok (.istore_n 3, 1) := by decide +kernel
theorem zd_Ref_insert_5 : decode prog_13_method_39_code 5 = .ok (.iload_n 3, 1) := by decide +kernel
theorem zd_Ref_insert_6 : decode prog_13_method_39_code 6 = .ok (.ifCond .le 60, 3) := by decide +kernel
theorem zd_Ref_insert_9 : decode prog_13_method_39_code 9 = .ok (.aload_n 0, 1) := by decide +kernel
theorem zd_Ref_insert_10 : decode prog_13_method_39_code 10 = .ok (.getfield 67, 3) := by decide +kernel
theorem zd_Ref_insert_13 : decode prog_13_method_39_code 13 = .ok (.iload_n 3, 1) := by decide +kernel
theorem zd_Ref_insert_14 : decode prog_13_method_39_code 14 = .ok (.iconst 1, 1) := by decide +kernel
theorem zd_Ref_insert_15 : decode prog_13_method_39_code 15 = .ok (.isub, 1) := by decide +kernel
theorem zd_Ref_insert_16 : decode prog_13_method_39_code 16 = .ok (.iaload, 1) := by decide +kernel
theorem zd_Ref_insert_17 : decode prog_13_method_39_code 17 = .ok (.iload_n 2, 1) := by decide +kernel
theorem zd_Ref_insert_18 : decode prog_13_method_39_code 18 = .ok (.imul, 1) := by decide +kernel
theorem zd_Ref_insert_19 : decode prog_13_method_39_code 19 = .ok (.iload_n 1, 1) := by decide +kernel
theorem zd_Ref_insert_20 : decode prog_13_method_39_code 20 = .ok (.aload_n 0, 1) := by decide +kernel
theorem zd_Ref_insert_21 : decode prog_13_method_39_code 21 = .ok (.getfield 70, 3) := by decide +kernel
theorem zd_Ref_insert_24 : decode prog_13_method_39_code 24 = .ok (.iload_n 3, 1) := by decide +kernel
theorem zd_Ref_insert_25 : decode prog_13_method_39_code 25 = .ok (.iconst 1, 1) := by decide +kernel
theorem zd_Ref_insert_26 : decode prog_13_method_39_code 26 = .ok (.isub, 1) := by decide +kernel
theorem zd_Ref_insert_27 : decode prog_13_method_39_code 27 = .ok (.iaload, 1) := by decide +kernel
theorem zd_Ref_insert_28 : decode prog_13_method_39_code 28 = .ok (.imul, 1) := by decide +kernel
theorem zd_Ref_insert_29 : decode prog_13_method_39_code 29 = .ok (.if_icmp .le 37, 3) := by decide +kernel
theorem zd_Ref_insert_32 : decode prog_13_method_39_code 32 = .ok (.aload_n 0, 1) := by decide +kernel
theorem zd_Ref_insert_33 : decode prog_13_method_39_code 33 = .ok (.getfield 67, 3) := by decide +kernel
theorem zd_Ref_insert_36 : decode prog_13_method_39_code 36 = .ok (.iload_n 3, 1) := by decide +kernel
theorem zd_Ref_insert_37 : decode prog_13_method_39_code 37 = .ok (.aload_n 0, 1) := by decide +kernel
theorem zd_Ref_insert_38 : decode prog_13_method_39_code 38 = .ok (.getfield 67, 3) := by decide +kernel
theorem zd_Ref_insert_41 : decode prog_13_method_39_code 41 = .ok (.iload_n 3, 1) := by decide +kernel
theorem zd_Ref_insert_42 : decode prog_13_method_39_code 42 = .ok (.iconst 1, 1) := by decide +kernel
theorem zd_Ref_insert_43 : decode prog_13_method_39_code 43 = .ok (.isub, 1) := by decide +kernel
theorem zd_Ref_insert_44 : decode prog_13_method_39_code 44 = .ok (.iaload, 1) := by decide +kernel
theorem zd_Ref_insert_45 : decode prog_13_method_39_code 45 = .ok (.iastore, 1) := by decide +kernel
theorem zd_Ref_insert_46 : decode prog_13_method_39_code 46 = .ok (.aload_n 0, 1) := by decide +kernel
theorem zd_Ref_insert_47 : decode prog_13_method_39_code 47 = .ok (.getfield 70, 3) := by decide +kernel
theorem zd_Ref_insert_50 : decode prog_13_method_39_code 50 = .ok (.iload_n 3, 1) := by decide +kernel
theorem zd_Ref_insert_51 : decode prog_13_method_39_code 51 = .ok (.aload_n 0, 1) := by decide +kernel
theorem zd_Ref_insert_52 : decode prog_13_method_39_code 52 = .ok (.getfield 70, 3) := by decide +kernel
theorem zd_Ref_insert_55 : decode prog_13_method_39_code 55 = .ok (.iload_n 3, 1) := by decide +kernel
theorem zd_Ref_insert_56 : decode prog_13_method_39_code 56 = .ok (.iconst 1, 1) := by decide +kernel
theorem zd_Ref_insert_57 : decode prog_13_method_39_code 57 = .ok (.isub, 1) := by decide +kernel
theorem zd_Ref_insert_58 : decode prog_13_method_39_code 58 = .ok (.iaload, 1) := by decide +kernel
theorem zd_Ref_insert_59 : decode prog_13_method_39_code 59 = .ok (.iastore, 1) := by decide +kernel
theorem zd_Ref_insert_60 : decode prog_13_method_39_code 60 = .ok (.iinc 3 (-1), 3) := by decide +kernel
theorem zd_Ref_insert_63 : decode prog_13_method_39_code 63 = .ok (.goto (-58), 3) := by decide +kernel
theorem zd_Ref_insert_66 : decode prog_13_method_39_code 66 = .ok (.aload_n 0, 1) := by decide +kernel
theorem zd_Ref_insert_67 : decode prog_13_method_39_code 67 = .ok (.getfield 67, 3) := by decide +kernel
theorem zd_Ref_insert_70 : decode prog_13_method_39_code 70 = .ok (.iload_n 3, 1) := by decide +kernel
theorem zd_Ref_insert_71 : decode prog_13_method_39_code 71 = .ok (.iload_n 1, 1) := by decide +kernel
theorem zd_Ref_insert_72 : decode prog_13_method_39_code 72 = .ok (.iastore, 1) := by decide +kernel
theorem zd_Ref_insert_73 : decode prog_13_method_39_code 73 = .ok (.aload_n 0, 1) := by decide +kernel
theorem zd_Ref_insert_74 : decode prog_13_method_39_code 74 = .ok (.getfield 70, 3) := by decide +kernel
theorem zd_Ref_insert_77 : decode prog_13_method_39_code 77 = .ok (.iload_n 3, 1) := by decide +kernel
theorem zd_Ref_insert_78 : decode prog_13_method_39_code 78 = .ok (.iload_n 2, 1) := by decide +kernel
theorem zd_Ref_insert_79 : decode prog_13_method_39_code 79 = .ok (.iastore, 1) := by decide +kernel
theorem zd_Ref_insert_80 : decode prog_13_method_39_code 80 = .ok (.aload_n 0, 1) := by decide +kernel
theorem zd_Ref_insert_81 : decode prog_13_method_39_code 81 = .ok (.dup, 1) := by decide +kernel
theorem zd_Ref_insert_82 : decode prog_13_method_39_code 82 = .ok (.getfield 203, 3) := by decide +kernel
theorem zd_Ref_insert_85 : decode prog_13_method_39_code 85 = .ok (.iconst 1, 1) := by decide +kernel
theorem zd_Ref_insert_86 : decode prog_13_method_39_code 86 = .ok (.iadd, 1) := by decide +kernel
theorem zd_Ref_insert_87 : decode prog_13_method_39_code 87 = .ok (.putfield 203, 3) := by decide +kernel
theorem zd_Ref_insert_90 : decode prog_13_method_39_code 90 = .ok (.return_, 1) := by decide +kernel
def zm_Ref_tally : zg_M := (⟨"SurrogateTreeModel", "tally", "()I"⟩, prog_13_method_42_code, 4, (some .int))
theorem zd_Ref_tally_0 : decode prog_13_method_42_code 0 = .ok (.aload_n 0, 1) := by decide +kernel
theorem zd_Ref_tally_1 : decode prog_13_method_42_code 1 = .ok (.invokevirtual 173, 3) := by decide +kernel
theorem zd_Ref_tally_4 : decode prog_13_method_42_code 4 = .ok (.ifCond .le 5, 3) := by decide +kernel
theorem zd_Ref_tally_7 : decode prog_13_method_42_code 7 = .ok (.iconst (-1), 1) := by decide +kernel
theorem zd_Ref_tally_8 : decode prog_13_method_42_code 8 = .ok (.ireturn, 1) := by decide +kernel
theorem zd_Ref_tally_9 : decode prog_13_method_42_code 9 = .ok (.iconst 0, 1) := by decide +kernel
theorem zd_Ref_tally_10 : decode prog_13_method_42_code 10 = .ok (.istore_n 1, 1) := by decide +kernel
theorem zd_Ref_tally_11 : decode prog_13_method_42_code 11 = .ok (.iconst 0, 1) := by decide +kernel
theorem zd_Ref_tally_12 : decode prog_13_method_42_code 12 = .ok (.istore_n 2, 1) := by decide +kernel
theorem zd_Ref_tally_13 : decode prog_13_method_42_code 13 = .ok (.iload_n 2, 1) := by decide +kernel
theorem zd_Ref_tally_14 : decode prog_13_method_42_code 14 = .ok (.aload_n 0, 1) := by decide +kernel
theorem zd_Ref_tally_15 : decode prog_13_method_42_code 15 = .ok (.getfield 76, 3) := by decide +kernel
theorem zd_Ref_tally_18 : decode prog_13_method_42_code 18 = .ok (.if_icmp .ge 77, 3) := by decide +kernel
theorem zd_Ref_tally_21 : decode prog_13_method_42_code 21 = .ok (.aload_n 0, 1) := by decide +kernel
theorem zd_Ref_tally_22 : decode prog_13_method_42_code 22 = .ok (.getfield 16, 3) := by decide +kernel
theorem zd_Ref_tally_25 : decode prog_13_method_42_code 25 = .ok (.iload_n 2, 1) := by decide +kernel
theorem zd_Ref_tally_26 : decode prog_13_method_42_code 26 = .ok (.iaload, 1) := by decide +kernel
theorem zd_Ref_tally_27 : decode prog_13_method_42_code 27 = .ok (.ifCond .ne 62, 3) := by decide +kernel
theorem zd_Ref_tally_30 : decode prog_13_method_42_code 30 = .ok (.aload_n 0, 1) := by decide +kernel
theorem zd_Ref_tally_31 : decode prog_13_method_42_code 31 = .ok (.aload_n 0, 1) := by decide +kernel
theorem zd_Ref_tally_32 : decode prog_13_method_42_code 32 = .ok (.getfield 7, 3) := by decide +kernel
theorem zd_Ref_tally_35 : decode prog_13_method_42_code 35 = .ok (.iconst 3, 1) := by decide +kernel
theorem zd_Ref_tally_36 : decode prog_13_method_42_code 36 = .ok (.iload_n 2, 1) := by decide +kernel
theorem zd_Ref_tally_37 : decode prog_13_method_42_code 37 = .ok (.imul, 1) := by decide +kernel
theorem zd_Ref_tally_38 : decode prog_13_method_42_code 38 = .ok (.iaload, 1) := by decide +kernel
theorem zd_Ref_tally_39 : decode prog_13_method_42_code 39 = .ok (.aload_n 0, 1) := by decide +kernel
theorem zd_Ref_tally_40 : decode prog_13_method_42_code 40 = .ok (.getfield 7, 3) := by decide +kernel
theorem zd_Ref_tally_43 : decode prog_13_method_42_code 43 = .ok (.iconst 3, 1) := by decide +kernel
theorem zd_Ref_tally_44 : decode prog_13_method_42_code 44 = .ok (.iload_n 2, 1) := by decide +kernel
theorem zd_Ref_tally_45 : decode prog_13_method_42_code 45 = .ok (.imul, 1) := by decide +kernel
theorem zd_Ref_tally_46 : decode prog_13_method_42_code 46 = .ok (.iconst 1, 1) := by decide +kernel
theorem zd_Ref_tally_47 : decode prog_13_method_42_code 47 = .ok (.iadd, 1) := by decide +kernel
theorem zd_Ref_tally_48 : decode prog_13_method_42_code 48 = .ok (.iaload, 1) := by decide +kernel
theorem zd_Ref_tally_49 : decode prog_13_method_42_code 49 = .ok (.aload_n 0, 1) := by decide +kernel
theorem zd_Ref_tally_50 : decode prog_13_method_42_code 50 = .ok (.getfield 7, 3) := by decide +kernel
theorem zd_Ref_tally_53 : decode prog_13_method_42_code 53 = .ok (.iconst 3, 1) := by decide +kernel
theorem zd_Ref_tally_54 : decode prog_13_method_42_code 54 = .ok (.iload_n 2, 1) := by decide +kernel
theorem zd_Ref_tally_55 : decode prog_13_method_42_code 55 = .ok (.imul, 1) := by decide +kernel
theorem zd_Ref_tally_56 : decode prog_13_method_42_code 56 = .ok (.iconst 2, 1) := by decide +kernel
theorem zd_Ref_tally_57 : decode prog_13_method_42_code 57 = .ok (.iadd, 1) := by decide +kernel
theorem zd_Ref_tally_58 : decode prog_13_method_42_code 58 = .ok (.iaload, 1) := by decide +kernel
theorem zd_Ref_tally_59 : decode prog_13_method_42_code 59 = .ok (.invokevirtual 215, 3) := by decide +kernel
theorem zd_Ref_tally_62 : decode prog_13_method_42_code 62 = .ok (.istore_n 3, 1) := by decide +kernel
theorem zd_Ref_tally_63 : decode prog_13_method_42_code 63 = .ok (.aload_n 0, 1) := by decide +kernel
theorem zd_Ref_tally_64 : decode prog_13_method_42_code 64 = .ok (.getfield 19, 3) := by decide +kernel
theorem zd_Ref_tally_67 : decode prog_13_method_42_code 67 = .ok (.iconst 4, 1) := by decide +kernel
theorem zd_Ref_tally_68 : decode prog_13_method_42_code 68 = .ok (.iload_n 2, 1) := by decide +kernel
theorem zd_Ref_tally_69 : decode prog_13_method_42_code 69 = .ok (.imul, 1) := by decide +kernel
theorem zd_Ref_tally_70 : decode prog_13_method_42_code 70 = .ok (.aload_n 0, 1) := by decide +kernel
theorem zd_Ref_tally_71 : decode prog_13_method_42_code 71 = .ok (.aload_n 0, 1) := by decide +kernel
theorem zd_Ref_tally_72 : decode prog_13_method_42_code 72 = .ok (.getfield 32, 3) := by decide +kernel
theorem zd_Ref_tally_75 : decode prog_13_method_42_code 75 = .ok (.iload_n 3, 1) := by decide +kernel
theorem zd_Ref_tally_76 : decode prog_13_method_42_code 76 = .ok (.iaload, 1) := by decide +kernel
theorem zd_Ref_tally_77 : decode prog_13_method_42_code 77 = .ok (.invokevirtual 102, 3) := by decide +kernel
theorem zd_Ref_tally_80 : decode prog_13_method_42_code 80 = .ok (.iadd, 1) := by decide +kernel
theorem zd_Ref_tally_81 : decode prog_13_method_42_code 81 = .ok (.dup2, 1) := by decide +kernel
theorem zd_Ref_tally_82 : decode prog_13_method_42_code 82 = .ok (.iaload, 1) := by decide +kernel
theorem zd_Ref_tally_83 : decode prog_13_method_42_code 83 = .ok (.iconst 1, 1) := by decide +kernel
theorem zd_Ref_tally_84 : decode prog_13_method_42_code 84 = .ok (.iadd, 1) := by decide +kernel
theorem zd_Ref_tally_85 : decode prog_13_method_42_code 85 = .ok (.iastore, 1) := by decide +kernel
theorem zd_Ref_tally_86 : decode prog_13_method_42_code 86 = .ok (.iinc 1 1, 3) := by decide +kernel
theorem zd_Ref_tally_89 : decode prog_13_method_42_code 89 = .ok (.iinc 2 1, 3) := by decide +kernel
theorem zd_Ref_tally_92 : decode prog_13_method_42_code 92 = .ok (.goto (-79), 3) := by decide +kernel
theorem zd_Ref_tally_95 : decode prog_13_method_42_code 95 = .ok (.iload_n 1, 1) := by decide +kernel
theorem zd_Ref_tally_96 : decode prog_13_method_42_code 96 = .ok (.ireturn, 1) := by decide +kernel
def zm_Ref_votes : zg_M := (⟨"SurrogateTreeModel", "votes", "(II)I"⟩, prog_13_method_43_code, 3, (some .int))
theorem zd_Ref_votes_0 : decode prog_13_method_43_code 0 = .ok (.iload_n 1, 1) := by decide +kernel
theorem zd_Ref_votes_1 : decode prog_13_method_43_code 1 = .ok (.ifCond .lt 20, 3) := by decide +kernel
theorem zd_Ref_votes_4 : decode prog_13_method_43_code 4 = .ok (.iload_n 1, 1) := by decide +kernel
theorem zd_Ref_votes_5 : decode prog_13_method_43_code 5 = .ok (.aload_n 0, 1) := by decide +kernel
theorem zd_Ref_votes_6 : decode prog_13_method_43_code 6 = .ok (.getfield 76, 3) := by decide +kernel
theorem zd_Ref_votes_9 : decode prog_13_method_43_code 9 = .ok (.if_icmp .ge 12, 3) := by decide +kernel
theorem zd_Ref_votes_12 : decode prog_13_method_43_code 12 = .ok (.iload_n 2, 1) := by decide +kernel
theorem zd_Ref_votes_13 : decode prog_13_method_43_code 13 = .ok (.ifCond .lt 8, 3) := by decide +kernel
theorem zd_Ref_votes_16 : decode prog_13_method_43_code 16 = .ok (.iload_n 2, 1) := by decide +kernel
theorem zd_Ref_votes_17 : decode prog_13_method_43_code 17 = .ok (.iconst 3, 1) := by decide +kernel
theorem zd_Ref_votes_18 : decode prog_13_method_43_code 18 = .ok (.if_icmp .le 7, 3) := by decide +kernel
theorem zd_Ref_votes_21 : decode prog_13_method_43_code 21 = .ok (.iconst (-1), 1) := by decide +kernel
theorem zd_Ref_votes_22 : decode prog_13_method_43_code 22 = .ok (.goto 13, 3) := by decide +kernel
theorem zd_Ref_votes_25 : decode prog_13_method_43_code 25 = .ok (.aload_n 0, 1) := by decide +kernel
theorem zd_Ref_votes_26 : decode prog_13_method_43_code 26 = .ok (.getfield 19, 3) := by decide +kernel
theorem zd_Ref_votes_29 : decode prog_13_method_43_code 29 = .ok (.iconst 4, 1) := by decide +kernel
theorem zd_Ref_votes_30 : decode prog_13_method_43_code 30 = .ok (.iload_n 1, 1) := by decide +kernel
theorem zd_Ref_votes_31 : decode prog_13_method_43_code 31 = .ok (.imul, 1) := by decide +kernel
theorem zd_Ref_votes_32 : decode prog_13_method_43_code 32 = .ok (.iload_n 2, 1) := by decide +kernel
theorem zd_Ref_votes_33 : decode prog_13_method_43_code 33 = .ok (.iadd, 1) := by decide +kernel
theorem zd_Ref_votes_34 : decode prog_13_method_43_code 34 = .ok (.iaload, 1) := by decide +kernel
theorem zd_Ref_votes_35 : decode prog_13_method_43_code 35 = .ok (.ireturn, 1) := by decide +kernel
def zm_Ref_wrong : zg_M := (⟨"SurrogateTreeModel", "wrong", "()I"⟩, prog_13_method_44_code, 5, (some .int))
theorem zd_Ref_wrong_0 : decode prog_13_method_44_code 0 = .ok (.iconst 0, 1) := by decide +kernel
theorem zd_Ref_wrong_1 : decode prog_13_method_44_code 1 = .ok (.istore_n 1, 1) := by decide +kernel
theorem zd_Ref_wrong_2 : decode prog_13_method_44_code 2 = .ok (.iconst 0, 1) := by decide +kernel
theorem zd_Ref_wrong_3 : decode prog_13_method_44_code 3 = .ok (.istore_n 2, 1) := by decide +kernel
theorem zd_Ref_wrong_4 : decode prog_13_method_44_code 4 = .ok (.iload_n 2, 1) := by decide +kernel
theorem zd_Ref_wrong_5 : decode prog_13_method_44_code 5 = .ok (.aload_n 0, 1) := by decide +kernel
theorem zd_Ref_wrong_6 : decode prog_13_method_44_code 6 = .ok (.getfield 76, 3) := by decide +kernel
theorem zd_Ref_wrong_9 : decode prog_13_method_44_code 9 = .ok (.if_icmp .ge 88, 3) := by decide +kernel
theorem zd_Ref_wrong_12 : decode prog_13_method_44_code 12 = .ok (.iconst 0, 1) := by decide +kernel
theorem zd_Ref_wrong_13 : decode prog_13_method_44_code 13 = .ok (.istore_n 3, 1) := by decide +kernel
theorem zd_Ref_wrong_14 : decode prog_13_method_44_code 14 = .ok (.iconst 1, 1) := by decide +kernel
theorem zd_Ref_wrong_15 : decode prog_13_method_44_code 15 = .ok (.istore 4, 2) := by decide +kernel
theorem zd_Ref_wrong_17 : decode prog_13_method_44_code 17 = .ok (.iload 4, 2) := by decide +kernel
theorem zd_Ref_wrong_19 : decode prog_13_method_44_code 19 = .ok (.iconst 4, 1) := by decide +kernel
theorem zd_Ref_wrong_20 : decode prog_13_method_44_code 20 = .ok (.if_icmp .ge 40, 3) := by decide +kernel
theorem zd_Ref_wrong_23 : decode prog_13_method_44_code 23 = .ok (.aload_n 0, 1) := by decide +kernel
theorem zd_Ref_wrong_24 : decode prog_13_method_44_code 24 = .ok (.getfield 19, 3) := by decide +kernel
theorem zd_Ref_wrong_27 : decode prog_13_method_44_code 27 = .ok (.iconst 4, 1) := by decide +kernel
theorem zd_Ref_wrong_28 : decode prog_13_method_44_code 28 = .ok (.iload_n 2, 1) := by decide +kernel
theorem zd_Ref_wrong_29 : decode prog_13_method_44_code 29 = .ok (.imul, 1) := by decide +kernel
theorem zd_Ref_wrong_30 : decode prog_13_method_44_code 30 = .ok (.iload 4, 2) := by decide +kernel
theorem zd_Ref_wrong_32 : decode prog_13_method_44_code 32 = .ok (.iadd, 1) := by decide +kernel
theorem zd_Ref_wrong_33 : decode prog_13_method_44_code 33 = .ok (.iaload, 1) := by decide +kernel
theorem zd_Ref_wrong_34 : decode prog_13_method_44_code 34 = .ok (.aload_n 0, 1) := by decide +kernel
theorem zd_Ref_wrong_35 : decode prog_13_method_44_code 35 = .ok (.getfield 19, 3) := by decide +kernel
theorem zd_Ref_wrong_38 : decode prog_13_method_44_code 38 = .ok (.iconst 4, 1) := by decide +kernel
theorem zd_Ref_wrong_39 : decode prog_13_method_44_code 39 = .ok (.iload_n 2, 1) := by decide +kernel
theorem zd_Ref_wrong_40 : decode prog_13_method_44_code 40 = .ok (.imul, 1) := by decide +kernel
theorem zd_Ref_wrong_41 : decode prog_13_method_44_code 41 = .ok (.iload_n 3, 1) := by decide +kernel
theorem zd_Ref_wrong_42 : decode prog_13_method_44_code 42 = .ok (.iadd, 1) := by decide +kernel
theorem zd_Ref_wrong_43 : decode prog_13_method_44_code 43 = .ok (.iaload, 1) := by decide +kernel
theorem zd_Ref_wrong_44 : decode prog_13_method_44_code 44 = .ok (.if_icmp .le 8, 3) := by decide +kernel
theorem zd_Ref_wrong_47 : decode prog_13_method_44_code 47 = .ok (.iload 4, 2) := by decide +kernel
theorem zd_Ref_wrong_49 : decode prog_13_method_44_code 49 = .ok (.goto 4, 3) := by decide +kernel
theorem zd_Ref_wrong_52 : decode prog_13_method_44_code 52 = .ok (.iload_n 3, 1) := by decide +kernel
theorem zd_Ref_wrong_53 : decode prog_13_method_44_code 53 = .ok (.istore_n 3, 1) := by decide +kernel
theorem zd_Ref_wrong_54 : decode prog_13_method_44_code 54 = .ok (.iinc 4 1, 3) := by decide +kernel
theorem zd_Ref_wrong_57 : decode prog_13_method_44_code 57 = .ok (.goto (-40), 3) := by decide +kernel
theorem zd_Ref_wrong_60 : decode prog_13_method_44_code 60 = .ok (.aload_n 0, 1) := by decide +kernel
theorem zd_Ref_wrong_61 : decode prog_13_method_44_code 61 = .ok (.getfield 19, 3) := by decide +kernel
theorem zd_Ref_wrong_64 : decode prog_13_method_44_code 64 = .ok (.iconst 4, 1) := by decide +kernel
theorem zd_Ref_wrong_65 : decode prog_13_method_44_code 65 = .ok (.iload_n 2, 1) := by decide +kernel
theorem zd_Ref_wrong_66 : decode prog_13_method_44_code 66 = .ok (.imul, 1) := by decide +kernel
theorem zd_Ref_wrong_67 : decode prog_13_method_44_code 67 = .ok (.iload_n 3, 1) := by decide +kernel
theorem zd_Ref_wrong_68 : decode prog_13_method_44_code 68 = .ok (.iadd, 1) := by decide +kernel
theorem zd_Ref_wrong_69 : decode prog_13_method_44_code 69 = .ok (.iaload, 1) := by decide +kernel
theorem zd_Ref_wrong_70 : decode prog_13_method_44_code 70 = .ok (.ifCond .le 19, 3) := by decide +kernel
theorem zd_Ref_wrong_73 : decode prog_13_method_44_code 73 = .ok (.iload_n 3, 1) := by decide +kernel
theorem zd_Ref_wrong_74 : decode prog_13_method_44_code 74 = .ok (.aload_n 0, 1) := by decide +kernel
theorem zd_Ref_wrong_75 : decode prog_13_method_44_code 75 = .ok (.getfield 13, 3) := by decide +kernel
theorem zd_Ref_wrong_78 : decode prog_13_method_44_code 78 = .ok (.iload_n 2, 1) := by decide +kernel
theorem zd_Ref_wrong_79 : decode prog_13_method_44_code 79 = .ok (.iaload, 1) := by decide +kernel
theorem zd_Ref_wrong_80 : decode prog_13_method_44_code 80 = .ok (.if_icmp .eq 9, 3) := by decide +kernel
theorem zd_Ref_wrong_83 : decode prog_13_method_44_code 83 = .ok (.iload_n 1, 1) := by decide +kernel
theorem zd_Ref_wrong_84 : decode prog_13_method_44_code 84 = .ok (.iconst 1, 1) := by decide +kernel
theorem zd_Ref_wrong_85 : decode prog_13_method_44_code 85 = .ok (.iadd, 1) := by decide +kernel
theorem zd_Ref_wrong_86 : decode prog_13_method_44_code 86 = .ok (.goto 4, 3) := by decide +kernel
theorem zd_Ref_wrong_89 : decode prog_13_method_44_code 89 = .ok (.iload_n 1, 1) := by decide +kernel
theorem zd_Ref_wrong_90 : decode prog_13_method_44_code 90 = .ok (.istore_n 1, 1) := by decide +kernel
theorem zd_Ref_wrong_91 : decode prog_13_method_44_code 91 = .ok (.iinc 2 1, 3) := by decide +kernel
theorem zd_Ref_wrong_94 : decode prog_13_method_44_code 94 = .ok (.goto (-90), 3) := by decide +kernel
theorem zd_Ref_wrong_97 : decode prog_13_method_44_code 97 = .ok (.iload_n 1, 1) := by decide +kernel
theorem zd_Ref_wrong_98 : decode prog_13_method_44_code 98 = .ok (.ireturn, 1) := by decide +kernel
end
section
def zm_Law_law : zg_M := (⟨"SurrogateTreeLaw", "law", "([I)Z"⟩, code, 4, some .boolean)
theorem zd_Law_law_0 : decode code 0 = .ok (.new 7, 3) := by decide +kernel
theorem zd_Law_law_3 : decode code 3 = .ok (.dup, 1) := by decide +kernel
theorem zd_Law_law_4 : decode code 4 = .ok (.invokespecial 9, 3) := by decide +kernel
theorem zd_Law_law_7 : decode code 7 = .ok (.astore_n 1, 1) := by decide +kernel
theorem zd_Law_law_8 : decode code 8 = .ok (.new 10, 3) := by decide +kernel
theorem zd_Law_law_11 : decode code 11 = .ok (.dup, 1) := by decide +kernel
theorem zd_Law_law_12 : decode code 12 = .ok (.invokespecial 12, 3) := by decide +kernel
theorem zd_Law_law_15 : decode code 15 = .ok (.astore_n 2, 1) := by decide +kernel
theorem zd_Law_law_16 : decode code 16 = .ok (.iconst 0, 1) := by decide +kernel
theorem zd_Law_law_17 : decode code 17 = .ok (.istore_n 3, 1) := by decide +kernel
theorem zd_Law_law_18 : decode code 18 = .ok (.iload_n 3, 1) := by decide +kernel
theorem zd_Law_law_19 : decode code 19 = .ok (.aload_n 0, 1) := by decide +kernel
theorem zd_Law_law_20 : decode code 20 = .ok (.arraylength, 1) := by decide +kernel
theorem zd_Law_law_21 : decode code 21 = .ok (.iconst 5, 1) := by decide +kernel
theorem zd_Law_law_22 : decode code 22 = .ok (.isub, 1) := by decide +kernel
theorem zd_Law_law_23 : decode code 23 = .ok (.if_icmp .gt 653, 3) := by decide +kernel
theorem zd_Law_law_26 : decode code 26 = .ok (.aload_n 0, 1) := by decide +kernel
theorem zd_Law_law_27 : decode code 27 = .ok (.iload_n 3, 1) := by decide +kernel
theorem zd_Law_law_28 : decode code 28 = .ok (.iaload, 1) := by decide +kernel
theorem zd_Law_law_29 : decode code 29 = .ok (.bipush 31, 2) := by decide +kernel
theorem zd_Law_law_31 : decode code 31 = .ok (.iand, 1) := by decide +kernel
theorem zd_Law_law_32 : decode code 32 = .ok (.tableswitch 638 0 18 #[92, 145, 188, 241, 252, 275, 298, 321, 354, 387, 411, 434, 457, 480, 523, 556, 579, 592, 625], 92) := by decide +kernel
theorem zd_Law_law_124 : decode code 124 = .ok (.aload_n 1, 1) := by decide +kernel
theorem zd_Law_law_125 : decode code 125 = .ok (.aload_n 0, 1) := by decide +kernel
theorem zd_Law_law_126 : decode code 126 = .ok (.iload_n 3, 1) := by decide +kernel
theorem zd_Law_law_127 : decode code 127 = .ok (.iconst 1, 1) := by decide +kernel
theorem zd_Law_law_128 : decode code 128 = .ok (.iadd, 1) := by decide +kernel
theorem zd_Law_law_129 : decode code 129 = .ok (.iaload, 1) := by decide +kernel
theorem zd_Law_law_130 : decode code 130 = .ok (.aload_n 0, 1) := by decide +kernel
theorem zd_Law_law_131 : decode code 131 = .ok (.iload_n 3, 1) := by decide +kernel
theorem zd_Law_law_132 : decode code 132 = .ok (.iconst 2, 1) := by decide +kernel
theorem zd_Law_law_133 : decode code 133 = .ok (.iadd, 1) := by decide +kernel
theorem zd_Law_law_134 : decode code 134 = .ok (.iaload, 1) := by decide +kernel
theorem zd_Law_law_135 : decode code 135 = .ok (.aload_n 0, 1) := by decide +kernel
theorem zd_Law_law_136 : decode code 136 = .ok (.iload_n 3, 1) := by decide +kernel
theorem zd_Law_law_137 : decode code 137 = .ok (.iconst 3, 1) := by decide +kernel
theorem zd_Law_law_138 : decode code 138 = .ok (.iadd, 1) := by decide +kernel
theorem zd_Law_law_139 : decode code 139 = .ok (.iaload, 1) := by decide +kernel
theorem zd_Law_law_140 : decode code 140 = .ok (.aload_n 0, 1) := by decide +kernel
theorem zd_Law_law_141 : decode code 141 = .ok (.iload_n 3, 1) := by decide +kernel
theorem zd_Law_law_142 : decode code 142 = .ok (.iconst 4, 1) := by decide +kernel
theorem zd_Law_law_143 : decode code 143 = .ok (.iadd, 1) := by decide +kernel
theorem zd_Law_law_144 : decode code 144 = .ok (.iaload, 1) := by decide +kernel
theorem zd_Law_law_145 : decode code 145 = .ok (.invokevirtual 13, 3) := by decide +kernel
theorem zd_Law_law_148 : decode code 148 = .ok (.aload_n 2, 1) := by decide +kernel
theorem zd_Law_law_149 : decode code 149 = .ok (.aload_n 0, 1) := by decide +kernel
theorem zd_Law_law_150 : decode code 150 = .ok (.iload_n 3, 1) := by decide +kernel
theorem zd_Law_law_151 : decode code 151 = .ok (.iconst 1, 1) := by decide +kernel
theorem zd_Law_law_152 : decode code 152 = .ok (.iadd, 1) := by decide +kernel
theorem zd_Law_law_153 : decode code 153 = .ok (.iaload, 1) := by decide +kernel
theorem zd_Law_law_154 : decode code 154 = .ok (.aload_n 0, 1) := by decide +kernel
theorem zd_Law_law_155 : decode code 155 = .ok (.iload_n 3, 1) := by decide +kernel
theorem zd_Law_law_156 : decode code 156 = .ok (.iconst 2, 1) := by decide +kernel
theorem zd_Law_law_157 : decode code 157 = .ok (.iadd, 1) := by decide +kernel
theorem zd_Law_law_158 : decode code 158 = .ok (.iaload, 1) := by decide +kernel
theorem zd_Law_law_159 : decode code 159 = .ok (.aload_n 0, 1) := by decide +kernel
theorem zd_Law_law_160 : decode code 160 = .ok (.iload_n 3, 1) := by decide +kernel
theorem zd_Law_law_161 : decode code 161 = .ok (.iconst 3, 1) := by decide +kernel
theorem zd_Law_law_162 : decode code 162 = .ok (.iadd, 1) := by decide +kernel
theorem zd_Law_law_163 : decode code 163 = .ok (.iaload, 1) := by decide +kernel
theorem zd_Law_law_164 : decode code 164 = .ok (.aload_n 0, 1) := by decide +kernel
theorem zd_Law_law_165 : decode code 165 = .ok (.iload_n 3, 1) := by decide +kernel
theorem zd_Law_law_166 : decode code 166 = .ok (.iconst 4, 1) := by decide +kernel
theorem zd_Law_law_167 : decode code 167 = .ok (.iadd, 1) := by decide +kernel
theorem zd_Law_law_168 : decode code 168 = .ok (.iaload, 1) := by decide +kernel
theorem zd_Law_law_169 : decode code 169 = .ok (.invokevirtual 17, 3) := by decide +kernel
theorem zd_Law_law_172 : decode code 172 = .ok (.if_icmp .eq 498, 3) := by decide +kernel
theorem zd_Law_law_175 : decode code 175 = .ok (.iconst 0, 1) := by decide +kernel
theorem zd_Law_law_176 : decode code 176 = .ok (.ireturn, 1) := by decide +kernel
theorem zd_Law_law_177 : decode code 177 = .ok (.aload_n 1, 1) := by decide +kernel
theorem zd_Law_law_178 : decode code 178 = .ok (.aload_n 0, 1) := by decide +kernel
theorem zd_Law_law_179 : decode code 179 = .ok (.iload_n 3, 1) := by decide +kernel
theorem zd_Law_law_180 : decode code 180 = .ok (.iconst 1, 1) := by decide +kernel
theorem zd_Law_law_181 : decode code 181 = .ok (.iadd, 1) := by decide +kernel
theorem zd_Law_law_182 : decode code 182 = .ok (.iaload, 1) := by decide +kernel
theorem zd_Law_law_183 : decode code 183 = .ok (.aload_n 0, 1) := by decide +kernel
theorem zd_Law_law_184 : decode code 184 = .ok (.iload_n 3, 1) := by decide +kernel
theorem zd_Law_law_185 : decode code 185 = .ok (.iconst 2, 1) := by decide +kernel
theorem zd_Law_law_186 : decode code 186 = .ok (.iadd, 1) := by decide +kernel
theorem zd_Law_law_187 : decode code 187 = .ok (.iaload, 1) := by decide +kernel
theorem zd_Law_law_188 : decode code 188 = .ok (.aload_n 0, 1) := by decide +kernel
theorem zd_Law_law_189 : decode code 189 = .ok (.iload_n 3, 1) := by decide +kernel
theorem zd_Law_law_190 : decode code 190 = .ok (.iconst 3, 1) := by decide +kernel
theorem zd_Law_law_191 : decode code 191 = .ok (.iadd, 1) := by decide +kernel
theorem zd_Law_law_192 : decode code 192 = .ok (.iaload, 1) := by decide +kernel
theorem zd_Law_law_193 : decode code 193 = .ok (.invokevirtual 18, 3) := by decide +kernel
theorem zd_Law_law_196 : decode code 196 = .ok (.aload_n 2, 1) := by decide +kernel
theorem zd_Law_law_197 : decode code 197 = .ok (.aload_n 0, 1) := by decide +kernel
theorem zd_Law_law_198 : decode code 198 = .ok (.iload_n 3, 1) := by decide +kernel
theorem zd_Law_law_199 : decode code 199 = .ok (.iconst 1, 1) := by decide +kernel
theorem zd_Law_law_200 : decode code 200 = .ok (.iadd, 1) := by decide +kernel
theorem zd_Law_law_201 : decode code 201 = .ok (.iaload, 1) := by decide +kernel
theorem zd_Law_law_202 : decode code 202 = .ok (.aload_n 0, 1) := by decide +kernel
theorem zd_Law_law_203 : decode code 203 = .ok (.iload_n 3, 1) := by decide +kernel
theorem zd_Law_law_204 : decode code 204 = .ok (.iconst 2, 1) := by decide +kernel
theorem zd_Law_law_205 : decode code 205 = .ok (.iadd, 1) := by decide +kernel
theorem zd_Law_law_206 : decode code 206 = .ok (.iaload, 1) := by decide +kernel
theorem zd_Law_law_207 : decode code 207 = .ok (.aload_n 0, 1) := by decide +kernel
theorem zd_Law_law_208 : decode code 208 = .ok (.iload_n 3, 1) := by decide +kernel
theorem zd_Law_law_209 : decode code 209 = .ok (.iconst 3, 1) := by decide +kernel
theorem zd_Law_law_210 : decode code 210 = .ok (.iadd, 1) := by decide +kernel
theorem zd_Law_law_211 : decode code 211 = .ok (.iaload, 1) := by decide +kernel
theorem zd_Law_law_212 : decode code 212 = .ok (.invokevirtual 22, 3) := by decide +kernel
theorem zd_Law_law_215 : decode code 215 = .ok (.if_icmp .eq 455, 3) := by decide +kernel
theorem zd_Law_law_218 : decode code 218 = .ok (.iconst 0, 1) := by decide +kernel
theorem zd_Law_law_219 : decode code 219 = .ok (.ireturn, 1) := by decide +kernel
theorem zd_Law_law_220 : decode code 220 = .ok (.aload_n 1, 1) := by decide +kernel
theorem zd_Law_law_221 : decode code 221 = .ok (.aload_n 0, 1) := by decide +kernel
theorem zd_Law_law_222 : decode code 222 = .ok (.iload_n 3, 1) := by decide +kernel
theorem zd_Law_law_223 : decode code 223 = .ok (.iconst 1, 1) := by decide +kernel
theorem zd_Law_law_224 : decode code 224 = .ok (.iadd, 1) := by decide +kernel
theorem zd_Law_law_225 : decode code 225 = .ok (.iaload, 1) := by decide +kernel
theorem zd_Law_law_226 : decode code 226 = .ok (.i2l, 1) := by decide +kernel
theorem zd_Law_law_227 : decode code 227 = .ok (.bipush 32, 2) := by decide +kernel
theorem zd_Law_law_229 : decode code 229 = .ok (.lshl, 1) := by decide +kernel
theorem zd_Law_law_230 : decode code 230 = .ok (.aload_n 0, 1) := by decide +kernel
theorem zd_Law_law_231 : decode code 231 = .ok (.iload_n 3, 1) := by decide +kernel
theorem zd_Law_law_232 : decode code 232 = .ok (.iconst 2, 1) := by decide +kernel
theorem zd_Law_law_233 : decode code 233 = .ok (.iadd, 1) := by decide +kernel
theorem zd_Law_law_234 : decode code 234 = .ok (.iaload, 1) := by decide +kernel
theorem zd_Law_law_235 : decode code 235 = .ok (.i2l, 1) := by decide +kernel
theorem zd_Law_law_236 : decode code 236 = .ok (.ldc2_w 23, 3) := by decide +kernel
theorem zd_Law_law_239 : decode code 239 = .ok (.land, 1) := by decide +kernel
theorem zd_Law_law_240 : decode code 240 = .ok (.lor, 1) := by decide +kernel
theorem zd_Law_law_241 : decode code 241 = .ok (.invokevirtual 25, 3) := by decide +kernel
theorem zd_Law_law_244 : decode code 244 = .ok (.aload_n 2, 1) := by decide +kernel
theorem zd_Law_law_245 : decode code 245 = .ok (.aload_n 0, 1) := by decide +kernel
theorem zd_Law_law_246 : decode code 246 = .ok (.iload_n 3, 1) := by decide +kernel
theorem zd_Law_law_247 : decode code 247 = .ok (.iconst 1, 1) := by decide +kernel
theorem zd_Law_law_248 : decode code 248 = .ok (.iadd, 1) := by decide +kernel
theorem zd_Law_law_249 : decode code 249 = .ok (.iaload, 1) := by decide +kernel
theorem zd_Law_law_250 : decode code 250 = .ok (.i2l, 1) := by decide +kernel
theorem zd_Law_law_251 : decode code 251 = .ok (.bipush 32, 2) := by decide +kernel
theorem zd_Law_law_253 : decode code 253 = .ok (.lshl, 1) := by decide +kernel
theorem zd_Law_law_254 : decode code 254 = .ok (.aload_n 0, 1) := by decide +kernel
theorem zd_Law_law_255 : decode code 255 = .ok (.iload_n 3, 1) := by decide +kernel
theorem zd_Law_law_256 : decode code 256 = .ok (.iconst 2, 1) := by decide +kernel
theorem zd_Law_law_257 : decode code 257 = .ok (.iadd, 1) := by decide +kernel
theorem zd_Law_law_258 : decode code 258 = .ok (.iaload, 1) := by decide +kernel
theorem zd_Law_law_259 : decode code 259 = .ok (.i2l, 1) := by decide +kernel
theorem zd_Law_law_260 : decode code 260 = .ok (.ldc2_w 23, 3) := by decide +kernel
theorem zd_Law_law_263 : decode code 263 = .ok (.land, 1) := by decide +kernel
theorem zd_Law_law_264 : decode code 264 = .ok (.lor, 1) := by decide +kernel
theorem zd_Law_law_265 : decode code 265 = .ok (.invokevirtual 29, 3) := by decide +kernel
theorem zd_Law_law_268 : decode code 268 = .ok (.if_icmp .eq 402, 3) := by decide +kernel
theorem zd_Law_law_271 : decode code 271 = .ok (.iconst 0, 1) := by decide +kernel
theorem zd_Law_law_272 : decode code 272 = .ok (.ireturn, 1) := by decide +kernel
theorem zd_Law_law_273 : decode code 273 = .ok (.aload_n 1, 1) := by decide +kernel
theorem zd_Law_law_274 : decode code 274 = .ok (.invokevirtual 30, 3) := by decide +kernel
theorem zd_Law_law_277 : decode code 277 = .ok (.aload_n 2, 1) := by decide +kernel
theorem zd_Law_law_278 : decode code 278 = .ok (.invokevirtual 33, 3) := by decide +kernel
theorem zd_Law_law_281 : decode code 281 = .ok (.goto 389, 3) := by decide +kernel
theorem zd_Law_law_284 : decode code 284 = .ok (.aload_n 1, 1) := by decide +kernel
theorem zd_Law_law_285 : decode code 285 = .ok (.aload_n 0, 1) := by decide +kernel
theorem zd_Law_law_286 : decode code 286 = .ok (.iload_n 3, 1) := by decide +kernel
theorem zd_Law_law_287 : decode code 287 = .ok (.iconst 1, 1) := by decide +kernel
theorem zd_Law_law_288 : decode code 288 = .ok (.iadd, 1) := by decide +kernel
theorem zd_Law_law_289 : decode code 289 = .ok (.iaload, 1) := by decide +kernel
theorem zd_Law_law_290 : decode code 290 = .ok (.invokevirtual 34, 3) := by decide +kernel
theorem zd_Law_law_293 : decode code 293 = .ok (.aload_n 2, 1) := by decide +kernel
theorem zd_Law_law_294 : decode code 294 = .ok (.aload_n 0, 1) := by decide +kernel
theorem zd_Law_law_295 : decode code 295 = .ok (.iload_n 3, 1) := by decide +kernel
theorem zd_Law_law_296 : decode code 296 = .ok (.iconst 1, 1) := by decide +kernel
theorem zd_Law_law_297 : decode code 297 = .ok (.iadd, 1) := by decide +kernel
theorem zd_Law_law_298 : decode code 298 = .ok (.iaload, 1) := by decide +kernel
theorem zd_Law_law_299 : decode code 299 = .ok (.invokevirtual 38, 3) := by decide +kernel
theorem zd_Law_law_302 : decode code 302 = .ok (.if_icmp .eq 368, 3) := by decide +kernel
theorem zd_Law_law_305 : decode code 305 = .ok (.iconst 0, 1) := by decide +kernel
theorem zd_Law_law_306 : decode code 306 = .ok (.ireturn, 1) := by decide +kernel
theorem zd_Law_law_307 : decode code 307 = .ok (.aload_n 1, 1) := by decide +kernel
theorem zd_Law_law_308 : decode code 308 = .ok (.aload_n 0, 1) := by decide +kernel
theorem zd_Law_law_309 : decode code 309 = .ok (.iload_n 3, 1) := by decide +kernel
theorem zd_Law_law_310 : decode code 310 = .ok (.iconst 1, 1) := by decide +kernel
theorem zd_Law_law_311 : decode code 311 = .ok (.iadd, 1) := by decide +kernel
theorem zd_Law_law_312 : decode code 312 = .ok (.iaload, 1) := by decide +kernel
theorem zd_Law_law_313 : decode code 313 = .ok (.invokevirtual 39, 3) := by decide +kernel
theorem zd_Law_law_316 : decode code 316 = .ok (.aload_n 2, 1) := by decide +kernel
theorem zd_Law_law_317 : decode code 317 = .ok (.aload_n 0, 1) := by decide +kernel
theorem zd_Law_law_318 : decode code 318 = .ok (.iload_n 3, 1) := by decide +kernel
theorem zd_Law_law_319 : decode code 319 = .ok (.iconst 1, 1) := by decide +kernel
theorem zd_Law_law_320 : decode code 320 = .ok (.iadd, 1) := by decide +kernel
theorem zd_Law_law_321 : decode code 321 = .ok (.iaload, 1) := by decide +kernel
theorem zd_Law_law_322 : decode code 322 = .ok (.invokevirtual 42, 3) := by decide +kernel
theorem zd_Law_law_325 : decode code 325 = .ok (.if_icmp .eq 345, 3) := by decide +kernel
theorem zd_Law_law_328 : decode code 328 = .ok (.iconst 0, 1) := by decide +kernel
theorem zd_Law_law_329 : decode code 329 = .ok (.ireturn, 1) := by decide +kernel
theorem zd_Law_law_330 : decode code 330 = .ok (.aload_n 1, 1) := by decide +kernel
theorem zd_Law_law_331 : decode code 331 = .ok (.aload_n 0, 1) := by decide +kernel
theorem zd_Law_law_332 : decode code 332 = .ok (.iload_n 3, 1) := by decide +kernel
theorem zd_Law_law_333 : decode code 333 = .ok (.iconst 1, 1) := by decide +kernel
theorem zd_Law_law_334 : decode code 334 = .ok (.iadd, 1) := by decide +kernel
theorem zd_Law_law_335 : decode code 335 = .ok (.iaload, 1) := by decide +kernel
theorem zd_Law_law_336 : decode code 336 = .ok (.invokevirtual 43, 3) := by decide +kernel
theorem zd_Law_law_339 : decode code 339 = .ok (.aload_n 2, 1) := by decide +kernel
theorem zd_Law_law_340 : decode code 340 = .ok (.aload_n 0, 1) := by decide +kernel
theorem zd_Law_law_341 : decode code 341 = .ok (.iload_n 3, 1) := by decide +kernel
theorem zd_Law_law_342 : decode code 342 = .ok (.iconst 1, 1) := by decide +kernel
theorem zd_Law_law_343 : decode code 343 = .ok (.iadd, 1) := by decide +kernel
theorem zd_Law_law_344 : decode code 344 = .ok (.iaload, 1) := by decide +kernel
theorem zd_Law_law_345 : decode code 345 = .ok (.invokevirtual 46, 3) := by decide +kernel
theorem zd_Law_law_348 : decode code 348 = .ok (.if_icmp .eq 322, 3) := by decide +kernel
theorem zd_Law_law_351 : decode code 351 = .ok (.iconst 0, 1) := by decide +kernel
theorem zd_Law_law_352 : decode code 352 = .ok (.ireturn, 1) := by decide +kernel
theorem zd_Law_law_353 : decode code 353 = .ok (.aload_n 1, 1) := by decide +kernel
theorem zd_Law_law_354 : decode code 354 = .ok (.aload_n 0, 1) := by decide +kernel
theorem zd_Law_law_355 : decode code 355 = .ok (.iload_n 3, 1) := by decide +kernel
theorem zd_Law_law_356 : decode code 356 = .ok (.iconst 1, 1) := by decide +kernel
theorem zd_Law_law_357 : decode code 357 = .ok (.iadd, 1) := by decide +kernel
theorem zd_Law_law_358 : decode code 358 = .ok (.iaload, 1) := by decide +kernel
theorem zd_Law_law_359 : decode code 359 = .ok (.aload_n 0, 1) := by decide +kernel
theorem zd_Law_law_360 : decode code 360 = .ok (.iload_n 3, 1) := by decide +kernel
theorem zd_Law_law_361 : decode code 361 = .ok (.iconst 2, 1) := by decide +kernel
theorem zd_Law_law_362 : decode code 362 = .ok (.iadd, 1) := by decide +kernel
theorem zd_Law_law_363 : decode code 363 = .ok (.iaload, 1) := by decide +kernel
theorem zd_Law_law_364 : decode code 364 = .ok (.invokevirtual 47, 3) := by decide +kernel
theorem zd_Law_law_367 : decode code 367 = .ok (.aload_n 2, 1) := by decide +kernel
theorem zd_Law_law_368 : decode code 368 = .ok (.aload_n 0, 1) := by decide +kernel
theorem zd_Law_law_369 : decode code 369 = .ok (.iload_n 3, 1) := by decide +kernel
theorem zd_Law_law_370 : decode code 370 = .ok (.iconst 1, 1) := by decide +kernel
theorem zd_Law_law_371 : decode code 371 = .ok (.iadd, 1) := by decide +kernel
theorem zd_Law_law_372 : decode code 372 = .ok (.iaload, 1) := by decide +kernel
theorem zd_Law_law_373 : decode code 373 = .ok (.aload_n 0, 1) := by decide +kernel
theorem zd_Law_law_374 : decode code 374 = .ok (.iload_n 3, 1) := by decide +kernel
theorem zd_Law_law_375 : decode code 375 = .ok (.iconst 2, 1) := by decide +kernel
theorem zd_Law_law_376 : decode code 376 = .ok (.iadd, 1) := by decide +kernel
theorem zd_Law_law_377 : decode code 377 = .ok (.iaload, 1) := by decide +kernel
theorem zd_Law_law_378 : decode code 378 = .ok (.invokevirtual 51, 3) := by decide +kernel
theorem zd_Law_law_381 : decode code 381 = .ok (.if_icmp .eq 289, 3) := by decide +kernel
theorem zd_Law_law_384 : decode code 384 = .ok (.iconst 0, 1) := by decide +kernel
theorem zd_Law_law_385 : decode code 385 = .ok (.ireturn, 1) := by decide +kernel
theorem zd_Law_law_386 : decode code 386 = .ok (.aload_n 1, 1) := by decide +kernel
theorem zd_Law_law_387 : decode code 387 = .ok (.aload_n 0, 1) := by decide +kernel
theorem zd_Law_law_388 : decode code 388 = .ok (.iload_n 3, 1) := by decide +kernel
theorem zd_Law_law_389 : decode code 389 = .ok (.iconst 1, 1) := by decide +kernel
theorem zd_Law_law_390 : decode code 390 = .ok (.iadd, 1) := by decide +kernel
theorem zd_Law_law_391 : decode code 391 = .ok (.iaload, 1) := by decide +kernel
theorem zd_Law_law_392 : decode code 392 = .ok (.aload_n 0, 1) := by decide +kernel
theorem zd_Law_law_393 : decode code 393 = .ok (.iload_n 3, 1) := by decide +kernel
theorem zd_Law_law_394 : decode code 394 = .ok (.iconst 2, 1) := by decide +kernel
theorem zd_Law_law_395 : decode code 395 = .ok (.iadd, 1) := by decide +kernel
theorem zd_Law_law_396 : decode code 396 = .ok (.iaload, 1) := by decide +kernel
theorem zd_Law_law_397 : decode code 397 = .ok (.invokevirtual 52, 3) := by decide +kernel
theorem zd_Law_law_400 : decode code 400 = .ok (.aload_n 2, 1) := by decide +kernel
theorem zd_Law_law_401 : decode code 401 = .ok (.aload_n 0, 1) := by decide +kernel
theorem zd_Law_law_402 : decode code 402 = .ok (.iload_n 3, 1) := by decide +kernel
theorem zd_Law_law_403 : decode code 403 = .ok (.iconst 1, 1) := by decide +kernel
theorem zd_Law_law_404 : decode code 404 = .ok (.iadd, 1) := by decide +kernel
theorem zd_Law_law_405 : decode code 405 = .ok (.iaload, 1) := by decide +kernel
theorem zd_Law_law_406 : decode code 406 = .ok (.aload_n 0, 1) := by decide +kernel
theorem zd_Law_law_407 : decode code 407 = .ok (.iload_n 3, 1) := by decide +kernel
theorem zd_Law_law_408 : decode code 408 = .ok (.iconst 2, 1) := by decide +kernel
theorem zd_Law_law_409 : decode code 409 = .ok (.iadd, 1) := by decide +kernel
theorem zd_Law_law_410 : decode code 410 = .ok (.iaload, 1) := by decide +kernel
theorem zd_Law_law_411 : decode code 411 = .ok (.invokevirtual 55, 3) := by decide +kernel
theorem zd_Law_law_414 : decode code 414 = .ok (.if_icmp .eq 256, 3) := by decide +kernel
theorem zd_Law_law_417 : decode code 417 = .ok (.iconst 0, 1) := by decide +kernel
theorem zd_Law_law_418 : decode code 418 = .ok (.ireturn, 1) := by decide +kernel
theorem zd_Law_law_419 : decode code 419 = .ok (.aload_n 1, 1) := by decide +kernel
theorem zd_Law_law_420 : decode code 420 = .ok (.aload_n 0, 1) := by decide +kernel
theorem zd_Law_law_421 : decode code 421 = .ok (.iload_n 3, 1) := by decide +kernel
theorem zd_Law_law_422 : decode code 422 = .ok (.iconst 1, 1) := by decide +kernel
theorem zd_Law_law_423 : decode code 423 = .ok (.iadd, 1) := by decide +kernel
theorem zd_Law_law_424 : decode code 424 = .ok (.iaload, 1) := by decide +kernel
theorem zd_Law_law_425 : decode code 425 = .ok (.invokevirtual 56, 3) := by decide +kernel
theorem zd_Law_law_428 : decode code 428 = .ok (.aload_n 2, 1) := by decide +kernel
theorem zd_Law_law_429 : decode code 429 = .ok (.aload_n 0, 1) := by decide +kernel
theorem zd_Law_law_430 : decode code 430 = .ok (.iload_n 3, 1) := by decide +kernel
theorem zd_Law_law_431 : decode code 431 = .ok (.iconst 1, 1) := by decide +kernel
theorem zd_Law_law_432 : decode code 432 = .ok (.iadd, 1) := by decide +kernel
theorem zd_Law_law_433 : decode code 433 = .ok (.iaload, 1) := by decide +kernel
theorem zd_Law_law_434 : decode code 434 = .ok (.invokevirtual 60, 3) := by decide +kernel
theorem zd_Law_law_437 : decode code 437 = .ok (.lcmp, 1) := by decide +kernel
theorem zd_Law_law_438 : decode code 438 = .ok (.ifCond .eq 232, 3) := by decide +kernel
theorem zd_Law_law_441 : decode code 441 = .ok (.iconst 0, 1) := by decide +kernel
theorem zd_Law_law_442 : decode code 442 = .ok (.ireturn, 1) := by decide +kernel
theorem zd_Law_law_443 : decode code 443 = .ok (.aload_n 1, 1) := by decide +kernel
theorem zd_Law_law_444 : decode code 444 = .ok (.aload_n 0, 1) := by decide +kernel
theorem zd_Law_law_445 : decode code 445 = .ok (.iload_n 3, 1) := by decide +kernel
theorem zd_Law_law_446 : decode code 446 = .ok (.iconst 1, 1) := by decide +kernel
theorem zd_Law_law_447 : decode code 447 = .ok (.iadd, 1) := by decide +kernel
theorem zd_Law_law_448 : decode code 448 = .ok (.iaload, 1) := by decide +kernel
theorem zd_Law_law_449 : decode code 449 = .ok (.invokevirtual 61, 3) := by decide +kernel
theorem zd_Law_law_452 : decode code 452 = .ok (.aload_n 2, 1) := by decide +kernel
theorem zd_Law_law_453 : decode code 453 = .ok (.aload_n 0, 1) := by decide +kernel
theorem zd_Law_law_454 : decode code 454 = .ok (.iload_n 3, 1) := by decide +kernel
theorem zd_Law_law_455 : decode code 455 = .ok (.iconst 1, 1) := by decide +kernel
theorem zd_Law_law_456 : decode code 456 = .ok (.iadd, 1) := by decide +kernel
theorem zd_Law_law_457 : decode code 457 = .ok (.iaload, 1) := by decide +kernel
theorem zd_Law_law_458 : decode code 458 = .ok (.invokevirtual 64, 3) := by decide +kernel
theorem zd_Law_law_461 : decode code 461 = .ok (.if_icmp .eq 209, 3) := by decide +kernel
theorem zd_Law_law_464 : decode code 464 = .ok (.iconst 0, 1) := by decide +kernel
theorem zd_Law_law_465 : decode code 465 = .ok (.ireturn, 1) := by decide +kernel
theorem zd_Law_law_466 : decode code 466 = .ok (.aload_n 1, 1) := by decide +kernel
theorem zd_Law_law_467 : decode code 467 = .ok (.aload_n 0, 1) := by decide +kernel
theorem zd_Law_law_468 : decode code 468 = .ok (.iload_n 3, 1) := by decide +kernel
theorem zd_Law_law_469 : decode code 469 = .ok (.iconst 1, 1) := by decide +kernel
theorem zd_Law_law_470 : decode code 470 = .ok (.iadd, 1) := by decide +kernel
theorem zd_Law_law_471 : decode code 471 = .ok (.iaload, 1) := by decide +kernel
theorem zd_Law_law_472 : decode code 472 = .ok (.invokevirtual 65, 3) := by decide +kernel
theorem zd_Law_law_475 : decode code 475 = .ok (.aload_n 2, 1) := by decide +kernel
theorem zd_Law_law_476 : decode code 476 = .ok (.aload_n 0, 1) := by decide +kernel
theorem zd_Law_law_477 : decode code 477 = .ok (.iload_n 3, 1) := by decide +kernel
theorem zd_Law_law_478 : decode code 478 = .ok (.iconst 1, 1) := by decide +kernel
theorem zd_Law_law_479 : decode code 479 = .ok (.iadd, 1) := by decide +kernel
theorem zd_Law_law_480 : decode code 480 = .ok (.iaload, 1) := by decide +kernel
theorem zd_Law_law_481 : decode code 481 = .ok (.invokevirtual 68, 3) := by decide +kernel
theorem zd_Law_law_484 : decode code 484 = .ok (.if_icmp .eq 186, 3) := by decide +kernel
theorem zd_Law_law_487 : decode code 487 = .ok (.iconst 0, 1) := by decide +kernel
theorem zd_Law_law_488 : decode code 488 = .ok (.ireturn, 1) := by decide +kernel
theorem zd_Law_law_489 : decode code 489 = .ok (.aload_n 1, 1) := by decide +kernel
theorem zd_Law_law_490 : decode code 490 = .ok (.aload_n 0, 1) := by decide +kernel
theorem zd_Law_law_491 : decode code 491 = .ok (.iload_n 3, 1) := by decide +kernel
theorem zd_Law_law_492 : decode code 492 = .ok (.iconst 1, 1) := by decide +kernel
theorem zd_Law_law_493 : decode code 493 = .ok (.iadd, 1) := by decide +kernel
theorem zd_Law_law_494 : decode code 494 = .ok (.iaload, 1) := by decide +kernel
theorem zd_Law_law_495 : decode code 495 = .ok (.invokevirtual 69, 3) := by decide +kernel
theorem zd_Law_law_498 : decode code 498 = .ok (.aload_n 2, 1) := by decide +kernel
theorem zd_Law_law_499 : decode code 499 = .ok (.aload_n 0, 1) := by decide +kernel
theorem zd_Law_law_500 : decode code 500 = .ok (.iload_n 3, 1) := by decide +kernel
theorem zd_Law_law_501 : decode code 501 = .ok (.iconst 1, 1) := by decide +kernel
theorem zd_Law_law_502 : decode code 502 = .ok (.iadd, 1) := by decide +kernel
theorem zd_Law_law_503 : decode code 503 = .ok (.iaload, 1) := by decide +kernel
theorem zd_Law_law_504 : decode code 504 = .ok (.invokevirtual 72, 3) := by decide +kernel
theorem zd_Law_law_507 : decode code 507 = .ok (.if_icmp .eq 163, 3) := by decide +kernel
theorem zd_Law_law_510 : decode code 510 = .ok (.iconst 0, 1) := by decide +kernel
theorem zd_Law_law_511 : decode code 511 = .ok (.ireturn, 1) := by decide +kernel
theorem zd_Law_law_512 : decode code 512 = .ok (.aload_n 1, 1) := by decide +kernel
theorem zd_Law_law_513 : decode code 513 = .ok (.aload_n 0, 1) := by decide +kernel
theorem zd_Law_law_514 : decode code 514 = .ok (.iload_n 3, 1) := by decide +kernel
theorem zd_Law_law_515 : decode code 515 = .ok (.iconst 1, 1) := by decide +kernel
theorem zd_Law_law_516 : decode code 516 = .ok (.iadd, 1) := by decide +kernel
theorem zd_Law_law_517 : decode code 517 = .ok (.iaload, 1) := by decide +kernel
theorem zd_Law_law_518 : decode code 518 = .ok (.aload_n 0, 1) := by decide +kernel
theorem zd_Law_law_519 : decode code 519 = .ok (.iload_n 3, 1) := by decide +kernel
theorem zd_Law_law_520 : decode code 520 = .ok (.iconst 2, 1) := by decide +kernel
theorem zd_Law_law_521 : decode code 521 = .ok (.iadd, 1) := by decide +kernel
theorem zd_Law_law_522 : decode code 522 = .ok (.iaload, 1) := by decide +kernel
theorem zd_Law_law_523 : decode code 523 = .ok (.aload_n 0, 1) := by decide +kernel
theorem zd_Law_law_524 : decode code 524 = .ok (.iload_n 3, 1) := by decide +kernel
theorem zd_Law_law_525 : decode code 525 = .ok (.iconst 3, 1) := by decide +kernel
theorem zd_Law_law_526 : decode code 526 = .ok (.iadd, 1) := by decide +kernel
theorem zd_Law_law_527 : decode code 527 = .ok (.iaload, 1) := by decide +kernel
theorem zd_Law_law_528 : decode code 528 = .ok (.invokevirtual 73, 3) := by decide +kernel
theorem zd_Law_law_531 : decode code 531 = .ok (.aload_n 2, 1) := by decide +kernel
theorem zd_Law_law_532 : decode code 532 = .ok (.aload_n 0, 1) := by decide +kernel
theorem zd_Law_law_533 : decode code 533 = .ok (.iload_n 3, 1) := by decide +kernel
theorem zd_Law_law_534 : decode code 534 = .ok (.iconst 1, 1) := by decide +kernel
theorem zd_Law_law_535 : decode code 535 = .ok (.iadd, 1) := by decide +kernel
theorem zd_Law_law_536 : decode code 536 = .ok (.iaload, 1) := by decide +kernel
theorem zd_Law_law_537 : decode code 537 = .ok (.aload_n 0, 1) := by decide +kernel
theorem zd_Law_law_538 : decode code 538 = .ok (.iload_n 3, 1) := by decide +kernel
theorem zd_Law_law_539 : decode code 539 = .ok (.iconst 2, 1) := by decide +kernel
theorem zd_Law_law_540 : decode code 540 = .ok (.iadd, 1) := by decide +kernel
theorem zd_Law_law_541 : decode code 541 = .ok (.iaload, 1) := by decide +kernel
theorem zd_Law_law_542 : decode code 542 = .ok (.aload_n 0, 1) := by decide +kernel
theorem zd_Law_law_543 : decode code 543 = .ok (.iload_n 3, 1) := by decide +kernel
theorem zd_Law_law_544 : decode code 544 = .ok (.iconst 3, 1) := by decide +kernel
theorem zd_Law_law_545 : decode code 545 = .ok (.iadd, 1) := by decide +kernel
theorem zd_Law_law_546 : decode code 546 = .ok (.iaload, 1) := by decide +kernel
theorem zd_Law_law_547 : decode code 547 = .ok (.invokevirtual 77, 3) := by decide +kernel
theorem zd_Law_law_550 : decode code 550 = .ok (.if_icmp .eq 120, 3) := by decide +kernel
theorem zd_Law_law_553 : decode code 553 = .ok (.iconst 0, 1) := by decide +kernel
theorem zd_Law_law_554 : decode code 554 = .ok (.ireturn, 1) := by decide +kernel
theorem zd_Law_law_555 : decode code 555 = .ok (.aload_n 1, 1) := by decide +kernel
theorem zd_Law_law_556 : decode code 556 = .ok (.aload_n 0, 1) := by decide +kernel
theorem zd_Law_law_557 : decode code 557 = .ok (.iload_n 3, 1) := by decide +kernel
theorem zd_Law_law_558 : decode code 558 = .ok (.iconst 1, 1) := by decide +kernel
theorem zd_Law_law_559 : decode code 559 = .ok (.iadd, 1) := by decide +kernel
theorem zd_Law_law_560 : decode code 560 = .ok (.iaload, 1) := by decide +kernel
theorem zd_Law_law_561 : decode code 561 = .ok (.aload_n 0, 1) := by decide +kernel
theorem zd_Law_law_562 : decode code 562 = .ok (.iload_n 3, 1) := by decide +kernel
theorem zd_Law_law_563 : decode code 563 = .ok (.iconst 2, 1) := by decide +kernel
theorem zd_Law_law_564 : decode code 564 = .ok (.iadd, 1) := by decide +kernel
theorem zd_Law_law_565 : decode code 565 = .ok (.iaload, 1) := by decide +kernel
theorem zd_Law_law_566 : decode code 566 = .ok (.invokevirtual 78, 3) := by decide +kernel
theorem zd_Law_law_569 : decode code 569 = .ok (.aload_n 2, 1) := by decide +kernel
theorem zd_Law_law_570 : decode code 570 = .ok (.aload_n 0, 1) := by decide +kernel
theorem zd_Law_law_571 : decode code 571 = .ok (.iload_n 3, 1) := by decide +kernel
theorem zd_Law_law_572 : decode code 572 = .ok (.iconst 1, 1) := by decide +kernel
theorem zd_Law_law_573 : decode code 573 = .ok (.iadd, 1) := by decide +kernel
theorem zd_Law_law_574 : decode code 574 = .ok (.iaload, 1) := by decide +kernel
theorem zd_Law_law_575 : decode code 575 = .ok (.aload_n 0, 1) := by decide +kernel
theorem zd_Law_law_576 : decode code 576 = .ok (.iload_n 3, 1) := by decide +kernel
theorem zd_Law_law_577 : decode code 577 = .ok (.iconst 2, 1) := by decide +kernel
theorem zd_Law_law_578 : decode code 578 = .ok (.iadd, 1) := by decide +kernel
theorem zd_Law_law_579 : decode code 579 = .ok (.iaload, 1) := by decide +kernel
theorem zd_Law_law_580 : decode code 580 = .ok (.invokevirtual 81, 3) := by decide +kernel
theorem zd_Law_law_583 : decode code 583 = .ok (.if_icmp .eq 87, 3) := by decide +kernel
theorem zd_Law_law_586 : decode code 586 = .ok (.iconst 0, 1) := by decide +kernel
theorem zd_Law_law_587 : decode code 587 = .ok (.ireturn, 1) := by decide +kernel
theorem zd_Law_law_588 : decode code 588 = .ok (.aload_n 1, 1) := by decide +kernel
theorem zd_Law_law_589 : decode code 589 = .ok (.aload_n 0, 1) := by decide +kernel
theorem zd_Law_law_590 : decode code 590 = .ok (.iload_n 3, 1) := by decide +kernel
theorem zd_Law_law_591 : decode code 591 = .ok (.iconst 1, 1) := by decide +kernel
theorem zd_Law_law_592 : decode code 592 = .ok (.iadd, 1) := by decide +kernel
theorem zd_Law_law_593 : decode code 593 = .ok (.iaload, 1) := by decide +kernel
theorem zd_Law_law_594 : decode code 594 = .ok (.invokevirtual 82, 3) := by decide +kernel
theorem zd_Law_law_597 : decode code 597 = .ok (.aload_n 2, 1) := by decide +kernel
theorem zd_Law_law_598 : decode code 598 = .ok (.aload_n 0, 1) := by decide +kernel
theorem zd_Law_law_599 : decode code 599 = .ok (.iload_n 3, 1) := by decide +kernel
theorem zd_Law_law_600 : decode code 600 = .ok (.iconst 1, 1) := by decide +kernel
theorem zd_Law_law_601 : decode code 601 = .ok (.iadd, 1) := by decide +kernel
theorem zd_Law_law_602 : decode code 602 = .ok (.iaload, 1) := by decide +kernel
theorem zd_Law_law_603 : decode code 603 = .ok (.invokevirtual 85, 3) := by decide +kernel
theorem zd_Law_law_606 : decode code 606 = .ok (.if_icmp .eq 64, 3) := by decide +kernel
theorem zd_Law_law_609 : decode code 609 = .ok (.iconst 0, 1) := by decide +kernel
theorem zd_Law_law_610 : decode code 610 = .ok (.ireturn, 1) := by decide +kernel
theorem zd_Law_law_611 : decode code 611 = .ok (.aload_n 1, 1) := by decide +kernel
theorem zd_Law_law_612 : decode code 612 = .ok (.invokevirtual 86, 3) := by decide +kernel
theorem zd_Law_law_615 : decode code 615 = .ok (.aload_n 2, 1) := by decide +kernel
theorem zd_Law_law_616 : decode code 616 = .ok (.invokevirtual 90, 3) := by decide +kernel
theorem zd_Law_law_619 : decode code 619 = .ok (.if_icmp .eq 51, 3) := by decide +kernel
theorem zd_Law_law_622 : decode code 622 = .ok (.iconst 0, 1) := by decide +kernel
theorem zd_Law_law_623 : decode code 623 = .ok (.ireturn, 1) := by decide +kernel
theorem zd_Law_law_624 : decode code 624 = .ok (.aload_n 1, 1) := by decide +kernel
theorem zd_Law_law_625 : decode code 625 = .ok (.aload_n 0, 1) := by decide +kernel
theorem zd_Law_law_626 : decode code 626 = .ok (.iload_n 3, 1) := by decide +kernel
theorem zd_Law_law_627 : decode code 627 = .ok (.iconst 1, 1) := by decide +kernel
theorem zd_Law_law_628 : decode code 628 = .ok (.iadd, 1) := by decide +kernel
theorem zd_Law_law_629 : decode code 629 = .ok (.iaload, 1) := by decide +kernel
theorem zd_Law_law_630 : decode code 630 = .ok (.aload_n 0, 1) := by decide +kernel
theorem zd_Law_law_631 : decode code 631 = .ok (.iload_n 3, 1) := by decide +kernel
theorem zd_Law_law_632 : decode code 632 = .ok (.iconst 2, 1) := by decide +kernel
theorem zd_Law_law_633 : decode code 633 = .ok (.iadd, 1) := by decide +kernel
theorem zd_Law_law_634 : decode code 634 = .ok (.iaload, 1) := by decide +kernel
theorem zd_Law_law_635 : decode code 635 = .ok (.invokevirtual 91, 3) := by decide +kernel
theorem zd_Law_law_638 : decode code 638 = .ok (.aload_n 2, 1) := by decide +kernel
theorem zd_Law_law_639 : decode code 639 = .ok (.aload_n 0, 1) := by decide +kernel
theorem zd_Law_law_640 : decode code 640 = .ok (.iload_n 3, 1) := by decide +kernel
theorem zd_Law_law_641 : decode code 641 = .ok (.iconst 1, 1) := by decide +kernel
theorem zd_Law_law_642 : decode code 642 = .ok (.iadd, 1) := by decide +kernel
theorem zd_Law_law_643 : decode code 643 = .ok (.iaload, 1) := by decide +kernel
theorem zd_Law_law_644 : decode code 644 = .ok (.aload_n 0, 1) := by decide +kernel
theorem zd_Law_law_645 : decode code 645 = .ok (.iload_n 3, 1) := by decide +kernel
theorem zd_Law_law_646 : decode code 646 = .ok (.iconst 2, 1) := by decide +kernel
theorem zd_Law_law_647 : decode code 647 = .ok (.iadd, 1) := by decide +kernel
theorem zd_Law_law_648 : decode code 648 = .ok (.iaload, 1) := by decide +kernel
theorem zd_Law_law_649 : decode code 649 = .ok (.invokevirtual 94, 3) := by decide +kernel
theorem zd_Law_law_652 : decode code 652 = .ok (.if_icmp .eq 18, 3) := by decide +kernel
theorem zd_Law_law_655 : decode code 655 = .ok (.iconst 0, 1) := by decide +kernel
theorem zd_Law_law_656 : decode code 656 = .ok (.ireturn, 1) := by decide +kernel
theorem zd_Law_law_657 : decode code 657 = .ok (.aload_n 1, 1) := by decide +kernel
theorem zd_Law_law_658 : decode code 658 = .ok (.invokevirtual 95, 3) := by decide +kernel
theorem zd_Law_law_661 : decode code 661 = .ok (.aload_n 2, 1) := by decide +kernel
theorem zd_Law_law_662 : decode code 662 = .ok (.invokevirtual 98, 3) := by decide +kernel
theorem zd_Law_law_665 : decode code 665 = .ok (.if_icmp .eq 5, 3) := by decide +kernel
theorem zd_Law_law_668 : decode code 668 = .ok (.iconst 0, 1) := by decide +kernel
theorem zd_Law_law_669 : decode code 669 = .ok (.ireturn, 1) := by decide +kernel
theorem zd_Law_law_670 : decode code 670 = .ok (.iinc 3 5, 3) := by decide +kernel
theorem zd_Law_law_673 : decode code 673 = .ok (.goto (-655), 3) := by decide +kernel
theorem zd_Law_law_676 : decode code 676 = .ok (.iconst 1, 1) := by decide +kernel
theorem zd_Law_law_677 : decode code 677 = .ok (.ireturn, 1) := by decide +kernel
end
section
/-! links of fields and methods (written by wip/gen/links.py) -/
theorem zf_31 : zn_F "SurrogateTree$Table" 11 1 0 := ⟨by decide, by decide, rfl, zw_31⟩
theorem zf_32 : zn_F "SurrogateTree$Limits" 28 1 0 := ⟨by decide, by decide, rfl, zw_32⟩
theorem zf_33 : zn_F "SurrogateTree$Node" 78 1 0 := ⟨by decide, by decide, rfl, zw_33⟩
theorem zf_34 : zn_F "SurrogateTree" 194 1 0 := ⟨by decide, by decide, rfl, zw_34⟩
theorem zf_35 : zn_F "SurrogateTree$Table" 16 1 1 := ⟨by decide, by decide, rfl, zw_35⟩
theorem zf_36 : zn_F "SurrogateTree" 208 1 1 := ⟨by decide, by decide, rfl, zw_36⟩
theorem zf_37 : zn_F "SurrogateTree$Table" 20 1 2 := ⟨by decide, by decide, rfl, zw_37⟩
theorem zf_38 : zn_F "SurrogateTree" 113 1 2 := ⟨by decide, by decide, rfl, zw_38⟩
theorem zf_39 : zn_F "SurrogateTree$Table" 23 1 3 := ⟨by decide, by decide, rfl, zw_39⟩
theorem zf_40 : zn_F "SurrogateTree$Limits" 19 1 3 := ⟨by decide, by decide, rfl, zw_40⟩
theorem zf_41 : zn_F "SurrogateTree" 82 1 3 := ⟨by decide, by decide, rfl, zw_41⟩
theorem zf_42 : zn_F "SurrogateTree$Node" 71 1 3 := ⟨by decide, by decide, rfl, zw_42⟩
theorem zf_60 : zn_F "SurrogateTree$Ballot" 11 2 0 := ⟨by decide, by decide, rfl, zw_60⟩
theorem zf_61 : zn_F "SurrogateTree" 202 2 0 := ⟨by decide, by decide, rfl, zw_61⟩
theorem zf_78 : zn_F "SurrogateTree$Fraction" 7 4 0 := ⟨by decide, by decide, rfl, zw_78⟩
theorem zf_79 : zn_F "SurrogateTree$SplitSearch" 84 4 0 := ⟨by decide, by decide, rfl, zw_79⟩
theorem zf_80 : zn_F "SurrogateTree$Cutter" 62 4 0 := ⟨by decide, by decide, rfl, zw_80⟩
theorem zf_81 : zn_F "SurrogateTree" 151 4 0 := ⟨by decide, by decide, rfl, zw_81⟩
theorem zf_82 : zn_F "SurrogateTree$Fraction" 13 4 1 := ⟨by decide, by decide, rfl, zw_82⟩
theorem zf_83 : zn_F "SurrogateTree$Cutter" 66 4 1 := ⟨by decide, by decide, rfl, zw_83⟩
theorem zf_84 : zn_F "SurrogateTree" 159 4 1 := ⟨by decide, by decide, rfl, zw_84⟩
theorem zf_97 : zn_F "SurrogateTree$StandIn" 7 5 0 := ⟨by decide, by decide, rfl, zw_97⟩
theorem zf_98 : zn_F "SurrogateTree$StandInSearch" 67 5 0 := ⟨by decide, by decide, rfl, zw_98⟩
theorem zf_99 : zn_F "SurrogateTree$Node" 62 5 0 := ⟨by decide, by decide, rfl, zw_99⟩
theorem zf_100 : zn_F "SurrogateTree$StandIn" 13 5 1 := ⟨by decide, by decide, rfl, zw_100⟩
theorem zf_101 : zn_F "SurrogateTree$StandInSearch" 86 5 1 := ⟨by decide, by decide, rfl, zw_101⟩
theorem zf_102 : zn_F "SurrogateTree" 146 5 1 := ⟨by decide, by decide, rfl, zw_102⟩
theorem zf_103 : zn_F "SurrogateTree$StandIn" 16 5 2 := ⟨by decide, by decide, rfl, zw_103⟩
theorem zf_104 : zn_F "SurrogateTree$StandInSearch" 87 5 2 := ⟨by decide, by decide, rfl, zw_104⟩
theorem zf_105 : zn_F "SurrogateTree$StandIn" 20 5 3 := ⟨by decide, by decide, rfl, zw_105⟩
theorem zf_106 : zn_F "SurrogateTree$StandInSearch" 68 5 3 := ⟨by decide, by decide, rfl, zw_106⟩
theorem zf_107 : zn_F "SurrogateTree$Node" 48 5 3 := ⟨by decide, by decide, rfl, zw_107⟩
theorem zf_117 : zn_F "SurrogateTree$Node" 25 3 0 := ⟨by decide, by decide, rfl, zw_117⟩
theorem zf_118 : zn_F "SurrogateTree$SplitSearch" 41 3 0 := ⟨by decide, by decide, rfl, zw_118⟩
theorem zf_119 : zn_F "SurrogateTree$StandInSearch" 42 3 0 := ⟨by decide, by decide, rfl, zw_119⟩
theorem zf_120 : zn_F "SurrogateTree" 162 3 0 := ⟨by decide, by decide, rfl, zw_120⟩
theorem zf_121 : zn_F "SurrogateTree$Node" 29 3 1 := ⟨by decide, by decide, rfl, zw_121⟩
theorem zf_122 : zn_F "SurrogateTree" 165 3 1 := ⟨by decide, by decide, rfl, zw_122⟩
theorem zf_123 : zn_F "SurrogateTree$Cutter" 42 3 2 := ⟨by decide, by decide, rfl, zw_123⟩
theorem zf_124 : zn_F "SurrogateTree$Node" 42 3 2 := ⟨by decide, by decide, rfl, zw_124⟩
theorem zf_125 : zn_F "SurrogateTree" 168 3 2 := ⟨by decide, by decide, rfl, zw_125⟩
theorem zf_126 : zn_F "SurrogateTree$StandInSearch" 31 3 3 := ⟨by decide, by decide, rfl, zw_126⟩
theorem zf_127 : zn_F "SurrogateTree$SplitSearch" 102 3 3 := ⟨by decide, by decide, rfl, zw_127⟩
theorem zf_128 : zn_F "SurrogateTree$Node" 55 3 3 := ⟨by decide, by decide, rfl, zw_128⟩
theorem zf_129 : zn_F "SurrogateTree" 128 3 3 := ⟨by decide, by decide, rfl, zw_129⟩
theorem zf_130 : zn_F "SurrogateTree$StandInSearch" 51 3 4 := ⟨by decide, by decide, rfl, zw_130⟩
theorem zf_131 : zn_F "SurrogateTree$SplitSearch" 105 3 4 := ⟨by decide, by decide, rfl, zw_131⟩
theorem zf_132 : zn_F "SurrogateTree$Node" 59 3 4 := ⟨by decide, by decide, rfl, zw_132⟩
theorem zf_133 : zn_F "SurrogateTree" 143 3 4 := ⟨by decide, by decide, rfl, zw_133⟩
theorem zf_134 : zn_F "SurrogateTree$Node" 12 3 5 := ⟨by decide, by decide, rfl, zw_134⟩
theorem zf_135 : zn_F "SurrogateTree$SplitSearch" 32 3 5 := ⟨by decide, by decide, rfl, zw_135⟩
theorem zf_136 : zn_F "SurrogateTree" 147 3 5 := ⟨by decide, by decide, rfl, zw_136⟩
theorem zf_137 : zn_F "SurrogateTree$SplitSearch" 108 3 6 := ⟨by decide, by decide, rfl, zw_137⟩
theorem zf_138 : zn_F "SurrogateTree$Node" 67 3 6 := ⟨by decide, by decide, rfl, zw_138⟩
theorem zf_139 : zn_F "SurrogateTree$Node" 20 3 7 := ⟨by decide, by decide, rfl, zw_139⟩
theorem zf_140 : zn_F "SurrogateTree" 134 3 7 := ⟨by decide, by decide, rfl, zw_140⟩
theorem zf_141 : zn_F "SurrogateTree$StandInSearch" 25 3 8 := ⟨by decide, by decide, rfl, zw_141⟩
theorem zf_142 : zn_F "SurrogateTree$Node" 45 3 8 := ⟨by decide, by decide, rfl, zw_142⟩
theorem zf_172 : zn_F "SurrogateTree$Shape" 9 6 0 := ⟨by decide, by decide, rfl, zw_172⟩
theorem zf_173 : zn_F "SurrogateTree$Cutter" 48 6 0 := ⟨by decide, by decide, rfl, zw_173⟩
theorem zf_174 : zn_F "SurrogateTree" 219 6 0 := ⟨by decide, by decide, rfl, zw_174⟩
theorem zf_190 : zn_F "SurrogateTree$Limits" 9 8 0 := ⟨by decide, by decide, rfl, zw_190⟩
theorem zf_191 : zn_F "SurrogateTree$Limits" 15 8 1 := ⟨by decide, by decide, rfl, zw_191⟩
theorem zf_199 : zn_F "SurrogateTree$SplitSearch" 12 7 0 := ⟨by decide, by decide, rfl, zw_199⟩
theorem zf_200 : zn_F "SurrogateTree$SplitSearch" 18 7 1 := ⟨by decide, by decide, rfl, zw_200⟩
theorem zf_201 : zn_F "SurrogateTree$SplitSearch" 22 7 2 := ⟨by decide, by decide, rfl, zw_201⟩
theorem zf_202 : zn_F "SurrogateTree$SplitSearch" 70 7 3 := ⟨by decide, by decide, rfl, zw_202⟩
theorem zf_203 : zn_F "SurrogateTree$SplitSearch" 73 7 4 := ⟨by decide, by decide, rfl, zw_203⟩
theorem zf_204 : zn_F "SurrogateTree$SplitSearch" 28 7 5 := ⟨by decide, by decide, rfl, zw_204⟩
theorem zf_228 : zn_F "SurrogateTree$StandInSearch" 12 9 0 := ⟨by decide, by decide, rfl, zw_228⟩
theorem zf_229 : zn_F "SurrogateTree$StandInSearch" 21 9 1 := ⟨by decide, by decide, rfl, zw_229⟩
theorem zf_245 : zn_F "SurrogateTree$Cutter" 12 10 0 := ⟨by decide, by decide, rfl, zw_245⟩
theorem zf_246 : zn_F "SurrogateTree" 189 10 0 := ⟨by decide, by decide, rfl, zw_246⟩
theorem zf_247 : zn_F "SurrogateTree$Cutter" 21 10 1 := ⟨by decide, by decide, rfl, zw_247⟩
theorem zf_248 : zn_F "SurrogateTree$Cutter" 25 10 2 := ⟨by decide, by decide, rfl, zw_248⟩
theorem zf_249 : zn_F "SurrogateTree$Cutter" 28 10 3 := ⟨by decide, by decide, rfl, zw_249⟩
theorem zf_250 : zn_F "SurrogateTree$Cutter" 32 10 4 := ⟨by decide, by decide, rfl, zw_250⟩
theorem zf_251 : zn_F "SurrogateTree$Cutter" 35 10 5 := ⟨by decide, by decide, rfl, zw_251⟩
theorem zf_293 : zn_F "SurrogateTree" 10 0 0 := ⟨by decide, by decide, rfl, zw_293⟩
theorem zf_294 : zn_F "SurrogateTree" 19 0 1 := ⟨by decide, by decide, rfl, zw_294⟩
theorem zf_295 : zn_F "SurrogateTree" 25 0 2 := ⟨by decide, by decide, rfl, zw_295⟩
theorem zf_296 : zn_F "SurrogateTree" 33 0 3 := ⟨by decide, by decide, rfl, zw_296⟩
theorem zf_297 : zn_F "SurrogateTree" 37 0 4 := ⟨by decide, by decide, rfl, zw_297⟩
theorem zf_298 : zn_F "SurrogateTree" 43 0 5 := ⟨by decide, by decide, rfl, zw_298⟩
theorem zf_299 : zn_F "SurrogateTree" 50 0 6 := ⟨by decide, by decide, rfl, zw_299⟩
theorem zf_300 : zn_F "SurrogateTree" 57 0 7 := ⟨by decide, by decide, rfl, zw_300⟩
theorem zf_301 : zn_F "SurrogateTree" 61 0 8 := ⟨by decide, by decide, rfl, zw_301⟩
theorem zf_302 : zn_F "SurrogateTree" 122 0 9 := ⟨by decide, by decide, rfl, zw_302⟩
theorem zf_303 : zn_F "SurrogateTree" 65 0 10 := ⟨by decide, by decide, rfl, zw_303⟩
theorem zf_304 : zn_F "SurrogateTree" 69 0 11 := ⟨by decide, by decide, rfl, zw_304⟩
theorem zf_305 : zn_F "SurrogateTree" 72 0 12 := ⟨by decide, by decide, rfl, zw_305⟩
theorem zf_641 : zn_F "SurrogateTreeModel" 76 11 0 := ⟨by decide, by decide, rfl, zw_641⟩
theorem zf_642 : zn_F "SurrogateTreeModel" 7 11 1 := ⟨by decide, by decide, rfl, zw_642⟩
theorem zf_643 : zn_F "SurrogateTreeModel" 13 11 2 := ⟨by decide, by decide, rfl, zw_643⟩
theorem zf_644 : zn_F "SurrogateTreeModel" 16 11 3 := ⟨by decide, by decide, rfl, zw_644⟩
theorem zf_645 : zn_F "SurrogateTreeModel" 19 11 4 := ⟨by decide, by decide, rfl, zw_645⟩
theorem zf_646 : zn_F "SurrogateTreeModel" 86 11 5 := ⟨by decide, by decide, rfl, zw_646⟩
theorem zf_647 : zn_F "SurrogateTreeModel" 22 11 6 := ⟨by decide, by decide, rfl, zw_647⟩
theorem zf_648 : zn_F "SurrogateTreeModel" 26 11 7 := ⟨by decide, by decide, rfl, zw_648⟩
theorem zf_649 : zn_F "SurrogateTreeModel" 29 11 8 := ⟨by decide, by decide, rfl, zw_649⟩
theorem zf_650 : zn_F "SurrogateTreeModel" 32 11 9 := ⟨by decide, by decide, rfl, zw_650⟩
theorem zf_651 : zn_F "SurrogateTreeModel" 35 11 10 := ⟨by decide, by decide, rfl, zw_651⟩
theorem zf_652 : zn_F "SurrogateTreeModel" 38 11 11 := ⟨by decide, by decide, rfl, zw_652⟩
theorem zf_653 : zn_F "SurrogateTreeModel" 79 11 12 := ⟨by decide, by decide, rfl, zw_653⟩
theorem zf_654 : zn_F "SurrogateTreeModel" 186 11 13 := ⟨by decide, by decide, rfl, zw_654⟩
theorem zf_655 : zn_F "SurrogateTreeModel" 189 11 14 := ⟨by decide, by decide, rfl, zw_655⟩
theorem zf_656 : zn_F "SurrogateTreeModel" 109 11 15 := ⟨by decide, by decide, rfl, zw_656⟩
theorem zf_657 : zn_F "SurrogateTreeModel" 112 11 16 := ⟨by decide, by decide, rfl, zw_657⟩
theorem zf_658 : zn_F "SurrogateTreeModel" 115 11 17 := ⟨by decide, by decide, rfl, zw_658⟩
theorem zf_659 : zn_F "SurrogateTreeModel" 136 11 18 := ⟨by decide, by decide, rfl, zw_659⟩
theorem zf_660 : zn_F "SurrogateTreeModel" 152 11 19 := ⟨by decide, by decide, rfl, zw_660⟩
theorem zf_661 : zn_F "SurrogateTreeModel" 41 11 20 := ⟨by decide, by decide, rfl, zw_661⟩
theorem zf_662 : zn_F "SurrogateTreeModel" 44 11 21 := ⟨by decide, by decide, rfl, zw_662⟩
theorem zf_663 : zn_F "SurrogateTreeModel" 47 11 22 := ⟨by decide, by decide, rfl, zw_663⟩
theorem zf_664 : zn_F "SurrogateTreeModel" 50 11 23 := ⟨by decide, by decide, rfl, zw_664⟩
theorem zf_665 : zn_F "SurrogateTreeModel" 146 11 24 := ⟨by decide, by decide, rfl, zw_665⟩
theorem zf_666 : zn_F "SurrogateTreeModel" 149 11 25 := ⟨by decide, by decide, rfl, zw_666⟩
theorem zf_667 : zn_F "SurrogateTreeModel" 139 11 26 := ⟨by decide, by decide, rfl, zw_667⟩
theorem zf_668 : zn_F "SurrogateTreeModel" 53 11 27 := ⟨by decide, by decide, rfl, zw_668⟩
theorem zf_669 : zn_F "SurrogateTreeModel" 56 11 28 := ⟨by decide, by decide, rfl, zw_669⟩
theorem zf_670 : zn_F "SurrogateTreeModel" 60 11 29 := ⟨by decide, by decide, rfl, zw_670⟩
theorem zf_671 : zn_F "SurrogateTreeModel" 63 11 30 := ⟨by decide, by decide, rfl, zw_671⟩
theorem zf_672 : zn_F "SurrogateTreeModel" 203 11 31 := ⟨by decide, by decide, rfl, zw_672⟩
theorem zf_673 : zn_F "SurrogateTreeModel" 67 11 32 := ⟨by decide, by decide, rfl, zw_673⟩
theorem zf_674 : zn_F "SurrogateTreeModel" 70 11 33 := ⟨by decide, by decide, rfl, zw_674⟩
theorem zM_Tree_init : zn_M zm_Tree_init 0 := ⟨zw_1, zw_19, ⟨by decide, by decide⟩, by decide +kernel, by decide⟩
theorem zi_Tree_init : Cond.instanceMethod zm_Tree_init.1 ∈ zn_TS := zw_18
theorem zM_Table_init : zn_M zm_Table_init 0 := ⟨zw_2, zw_27, ⟨by decide, by decide⟩, by decide +kernel, by decide⟩
theorem zi_Table_init : Cond.instanceMethod zm_Table_init.1 ∈ zn_TS := zw_26
theorem zM_Ballot_init : zn_M zm_Ballot_init 0 := ⟨zw_3, zw_57, ⟨by decide, by decide⟩, by decide +kernel, by decide⟩
theorem zi_Ballot_init : Cond.instanceMethod zm_Ballot_init.1 ∈ zn_TS := zw_56
theorem zM_Node_init : zn_M zm_Node_init 0 := ⟨zw_4, zw_70, ⟨by decide, by decide⟩, by decide +kernel, by decide⟩
theorem zi_Node_init : Cond.instanceMethod zm_Node_init.1 ∈ zn_TS := zw_69
theorem zM_Fraction_init : zn_M zm_Fraction_init 0 := ⟨zw_5, zw_76, ⟨by decide, by decide⟩, by decide +kernel, by decide⟩
theorem zi_Fraction_init : Cond.instanceMethod zm_Fraction_init.1 ∈ zn_TS := zw_75
theorem zM_StandIn_init : zn_M zm_StandIn_init 0 := ⟨zw_6, zw_95, ⟨by decide, by decide⟩, by decide +kernel, by decide⟩
theorem zi_StandIn_init : Cond.instanceMethod zm_StandIn_init.1 ∈ zn_TS := zw_94
theorem zM_Shape_init : zn_M zm_Shape_init 0 := ⟨zw_7, zw_166, ⟨by decide, by decide⟩, by decide +kernel, by decide⟩
theorem zi_Shape_init : Cond.instanceMethod zm_Shape_init.1 ∈ zn_TS := zw_165
theorem zM_Shape_clear : zn_M zm_Shape_clear 0 := ⟨zw_7, zw_171, ⟨by decide, by decide⟩, by decide +kernel, by decide⟩
theorem zi_Shape_clear : Cond.instanceMethod zm_Shape_clear.1 ∈ zn_TS := zw_169
theorem zs_Shape_clear : Cond.selects zm_Shape_clear.1.cls zm_Shape_clear.1 zm_Shape_clear.1 ∈ zn_TS := zw_170
theorem zM_SplitSearch_init : zn_M zm_SplitSearch_init 0 := ⟨zw_8, zw_182, ⟨by decide, by decide⟩, by decide +kernel, by decide⟩
theorem zi_SplitSearch_init : Cond.instanceMethod zm_SplitSearch_init.1 ∈ zn_TS := zw_181
theorem zM_Limits_init : zn_M zm_Limits_init 0 := ⟨zw_9, zw_188, ⟨by decide, by decide⟩, by decide +kernel, by decide⟩
theorem zi_Limits_init : Cond.instanceMethod zm_Limits_init.1 ∈ zn_TS := zw_187
theorem zM_StandInSearch_init : zn_M zm_StandInSearch_init 0 := ⟨zw_10, zw_222, ⟨by decide, by decide⟩, by decide +kernel, by decide⟩
theorem zi_StandInSearch_init : Cond.instanceMethod zm_StandInSearch_init.1 ∈ zn_TS := zw_221
theorem zM_Cutter_init : zn_M zm_Cutter_init 0 := ⟨zw_11, zw_239, ⟨by decide, by decide⟩, by decide +kernel, by decide⟩
theorem zi_Cutter_init : Cond.instanceMethod zm_Cutter_init.1 ∈ zn_TS := zw_238
theorem zM_Tree_startAnew : zn_M zm_Tree_startAnew 0 := ⟨zw_1, zw_268, ⟨by decide, by decide⟩, by decide +kernel, by decide⟩
theorem zi_Tree_startAnew : Cond.instanceMethod zm_Tree_startAnew.1 ∈ zn_TS := zw_267
theorem zs_Tree_startAnew : Cond.selects zm_Tree_startAnew.1.cls zm_Tree_startAnew.1 zm_Tree_startAnew.1 ∈ zn_TS := zn_is 0 rfl
theorem zM_Table_weightyRows : zn_M zm_Table_weightyRows 0 := ⟨zw_2, zw_273, ⟨by decide, by decide⟩, by decide +kernel, by decide⟩
theorem zi_Table_weightyRows : Cond.instanceMethod zm_Table_weightyRows.1 ∈ zn_TS := zw_271
theorem zs_Table_weightyRows : Cond.selects zm_Table_weightyRows.1.cls zm_Table_weightyRows.1 zm_Table_weightyRows.1 ∈ zn_TS := zw_272
theorem zM_Tree_openNode : zn_M zm_Tree_openNode 2 := ⟨zw_1, zw_277, ⟨by decide, by decide⟩, by decide +kernel, by decide⟩
theorem zi_Tree_openNode : Cond.instanceMethod zm_Tree_openNode.1 ∈ zn_TS := zw_276
theorem zs_Tree_openNode : Cond.selects zm_Tree_openNode.1.cls zm_Tree_openNode.1 zm_Tree_openNode.1 ∈ zn_TS := zn_is 1 rfl
theorem zM_Node_takeRows : zn_M zm_Node_takeRows 2 := ⟨zw_4, zw_281, ⟨by decide, by decide⟩, by decide +kernel, by decide⟩
theorem zi_Node_takeRows : Cond.instanceMethod zm_Node_takeRows.1 ∈ zn_TS := zw_279
theorem zs_Node_takeRows : Cond.selects zm_Node_takeRows.1.cls zm_Node_takeRows.1 zm_Node_takeRows.1 ∈ zn_TS := zw_280
theorem zM_Table_rowsInClass : zn_M zm_Table_rowsInClass 2 := ⟨zw_2, zw_285, ⟨by decide, by decide⟩, by decide +kernel, by decide⟩
theorem zi_Table_rowsInClass : Cond.instanceMethod zm_Table_rowsInClass.1 ∈ zn_TS := zw_283
theorem zs_Table_rowsInClass : Cond.selects zm_Table_rowsInClass.1.cls zm_Table_rowsInClass.1 zm_Table_rowsInClass.1 ∈ zn_TS := zw_284
theorem zM_Table_contains : zn_M zm_Table_contains 2 := ⟨zw_2, zw_288, ⟨by decide, by decide⟩, by decide +kernel, by decide⟩
theorem zi_Table_contains : Cond.static zm_Table_contains.1 ∈ zn_TS := zw_287
theorem zM_Table_weightOf : zn_M zm_Table_weightOf 1 := ⟨zw_2, zw_292, ⟨by decide, by decide⟩, by decide +kernel, by decide⟩
theorem zi_Table_weightOf : Cond.instanceMethod zm_Table_weightOf.1 ∈ zn_TS := zw_290
theorem zs_Table_weightOf : Cond.selects zm_Table_weightOf.1.cls zm_Table_weightOf.1 zm_Table_weightOf.1 ∈ zn_TS := zw_291
theorem zM_Tree_addRow : zn_M zm_Tree_addRow 4 := ⟨zw_1, zw_336, ⟨by decide, by decide⟩, by decide +kernel, by decide⟩
theorem zi_Tree_addRow : Cond.instanceMethod zm_Tree_addRow.1 ∈ zn_TS := zw_334
theorem zs_Tree_addRow : Cond.selects zm_Tree_addRow.1.cls zm_Tree_addRow.1 zm_Tree_addRow.1 ∈ zn_TS := zw_335
theorem zM_Tree_isClass : zn_M zm_Tree_isClass 1 := ⟨zw_1, zw_339, ⟨by decide, by decide⟩, by decide +kernel, by decide⟩
theorem zi_Tree_isClass : Cond.static zm_Tree_isClass.1 ∈ zn_TS := zw_338
theorem zM_Table_append : zn_M zm_Table_append 4 := ⟨zw_2, zw_343, ⟨by decide, by decide⟩, by decide +kernel, by decide⟩
theorem zi_Table_append : Cond.instanceMethod zm_Table_append.1 ∈ zn_TS := zw_341
theorem zs_Table_append : Cond.selects zm_Table_append.1.cls zm_Table_append.1 zm_Table_append.1 ∈ zn_TS := zw_342
theorem zM_Table_setWeights : zn_M zm_Table_setWeights 1 := ⟨zw_2, zw_347, ⟨by decide, by decide⟩, by decide +kernel, by decide⟩
theorem zi_Table_setWeights : Cond.instanceMethod zm_Table_setWeights.1 ∈ zn_TS := zw_345
theorem zs_Table_setWeights : Cond.selects zm_Table_setWeights.1.cls zm_Table_setWeights.1 zm_Table_setWeights.1 ∈ zn_TS := zw_346
theorem zM_Ballot_clear : zn_M zm_Ballot_clear 0 := ⟨zw_3, zw_351, ⟨by decide, by decide⟩, by decide +kernel, by decide⟩
theorem zi_Ballot_clear : Cond.instanceMethod zm_Ballot_clear.1 ∈ zn_TS := zw_349
theorem zs_Ballot_clear : Cond.selects zm_Ballot_clear.1.cls zm_Ballot_clear.1 zm_Ballot_clear.1 ∈ zn_TS := zw_350
theorem zM_Tree_begin : zn_M zm_Tree_begin 3 := ⟨zw_1, zw_355, ⟨by decide, by decide⟩, by decide +kernel, by decide⟩
theorem zi_Tree_begin : Cond.instanceMethod zm_Tree_begin.1 ∈ zn_TS := zw_353
theorem zs_Tree_begin : Cond.selects zm_Tree_begin.1.cls zm_Tree_begin.1 zm_Tree_begin.1 ∈ zn_TS := zw_354
theorem zM_Tree_bag : zn_M zm_Tree_bag 1 := ⟨zw_1, zw_359, ⟨by decide, by decide⟩, by decide +kernel, by decide⟩
theorem zi_Tree_bag : Cond.instanceMethod zm_Tree_bag.1 ∈ zn_TS := zw_357
theorem zs_Tree_bag : Cond.selects zm_Tree_bag.1.cls zm_Tree_bag.1 zm_Tree_bag.1 ∈ zn_TS := zw_358
theorem zM_Table_draw : zn_M zm_Table_draw 1 := ⟨zw_2, zw_363, ⟨by decide, by decide⟩, by decide +kernel, by decide⟩
theorem zi_Table_draw : Cond.instanceMethod zm_Table_draw.1 ∈ zn_TS := zw_361
theorem zs_Table_draw : Cond.selects zm_Table_draw.1.cls zm_Table_draw.1 zm_Table_draw.1 ∈ zn_TS := zw_362
theorem zM_Table_isFair : zn_M zm_Table_isFair 1 := ⟨zw_2, zw_368, ⟨by decide, by decide⟩, by decide +kernel, by decide⟩
theorem zi_Table_isFair : Cond.instanceMethod zm_Table_isFair.1 ∈ zn_TS := zw_367
theorem zs_Table_isFair : Cond.selects zm_Table_isFair.1.cls zm_Table_isFair.1 zm_Table_isFair.1 ∈ zn_TS := zn_is 2 rfl
theorem zM_Integer_bitCount : zn_M zm_Integer_bitCount 1 := ⟨zw_13, zw_373, ⟨by decide, by decide⟩, by decide +kernel, by decide⟩
theorem zi_Integer_bitCount : Cond.static zm_Integer_bitCount.1 ∈ zn_TS := zw_372
theorem zM_Tree_even : zn_M zm_Tree_even 0 := ⟨zw_1, zw_380, ⟨by decide, by decide⟩, by decide +kernel, by decide⟩
theorem zi_Tree_even : Cond.instanceMethod zm_Tree_even.1 ∈ zn_TS := zw_378
theorem zs_Tree_even : Cond.selects zm_Tree_even.1.cls zm_Tree_even.1 zm_Tree_even.1 ∈ zn_TS := zw_379
theorem zM_Tree_weight : zn_M zm_Tree_weight 1 := ⟨zw_1, zw_384, ⟨by decide, by decide⟩, by decide +kernel, by decide⟩
theorem zi_Tree_weight : Cond.instanceMethod zm_Tree_weight.1 ∈ zn_TS := zw_382
theorem zs_Tree_weight : Cond.selects zm_Tree_weight.1.cls zm_Tree_weight.1 zm_Tree_weight.1 ∈ zn_TS := zw_383
theorem zM_Table_has : zn_M zm_Table_has 1 := ⟨zw_2, zw_388, ⟨by decide, by decide⟩, by decide +kernel, by decide⟩
theorem zi_Table_has : Cond.instanceMethod zm_Table_has.1 ∈ zn_TS := zw_386
theorem zs_Table_has : Cond.selects zm_Table_has.1.cls zm_Table_has.1 zm_Table_has.1 ∈ zn_TS := zw_387
theorem zM_Tree_grow : zn_M zm_Tree_grow 1 := ⟨zw_1, zw_392, ⟨by decide, by decide⟩, by decide +kernel, by decide⟩
theorem zi_Tree_grow : Cond.instanceMethod zm_Tree_grow.1 ∈ zn_TS := zw_390
theorem zs_Tree_grow : Cond.selects zm_Tree_grow.1.cls zm_Tree_grow.1 zm_Tree_grow.1 ∈ zn_TS := zw_391
theorem zM_Shape_firstWaiting : zn_M zm_Shape_firstWaiting 0 := ⟨zw_7, zw_396, ⟨by decide, by decide⟩, by decide +kernel, by decide⟩
theorem zi_Shape_firstWaiting : Cond.instanceMethod zm_Shape_firstWaiting.1 ∈ zn_TS := zw_394
theorem zs_Shape_firstWaiting : Cond.selects zm_Shape_firstWaiting.1.cls zm_Shape_firstWaiting.1 zm_Shape_firstWaiting.1 ∈ zn_TS := zw_395
theorem zM_Tree_makeTurn : zn_M zm_Tree_makeTurn 1 := ⟨zw_1, zw_400, ⟨by decide, by decide⟩, by decide +kernel, by decide⟩
theorem zi_Tree_makeTurn : Cond.instanceMethod zm_Tree_makeTurn.1 ∈ zn_TS := zw_399
theorem zs_Tree_makeTurn : Cond.selects zm_Tree_makeTurn.1.cls zm_Tree_makeTurn.1 zm_Tree_makeTurn.1 ∈ zn_TS := zn_is 3 rfl
theorem zM_SplitSearch_findBest : zn_M zm_SplitSearch_findBest 4 := ⟨zw_8, zw_404, ⟨by decide, by decide⟩, by decide +kernel, by decide⟩
theorem zi_SplitSearch_findBest : Cond.instanceMethod zm_SplitSearch_findBest.1 ∈ zn_TS := zw_402
theorem zs_SplitSearch_findBest : Cond.selects zm_SplitSearch_findBest.1.cls zm_SplitSearch_findBest.1 zm_SplitSearch_findBest.1 ∈ zn_TS := zw_403
theorem zM_Fraction_set : zn_M zm_Fraction_set 2 := ⟨zw_5, zw_408, ⟨by decide, by decide⟩, by decide +kernel, by decide⟩
theorem zi_Fraction_set : Cond.instanceMethod zm_Fraction_set.1 ∈ zn_TS := zw_406
theorem zs_Fraction_set : Cond.selects zm_Fraction_set.1.cls zm_Fraction_set.1 zm_Fraction_set.1 ∈ zn_TS := zw_407
theorem zM_Fraction_commonDivisor : zn_M zm_Fraction_commonDivisor 2 := ⟨zw_5, zw_411, ⟨by decide, by decide⟩, by decide +kernel, by decide⟩
theorem zi_Fraction_commonDivisor : Cond.static zm_Fraction_commonDivisor.1 ∈ zn_TS := zw_410
theorem zM_Table_rowsPresent : zn_M zm_Table_rowsPresent 2 := ⟨zw_2, zw_415, ⟨by decide, by decide⟩, by decide +kernel, by decide⟩
theorem zi_Table_rowsPresent : Cond.instanceMethod zm_Table_rowsPresent.1 ∈ zn_TS := zw_413
theorem zs_Table_rowsPresent : Cond.selects zm_Table_rowsPresent.1.cls zm_Table_rowsPresent.1 zm_Table_rowsPresent.1 ∈ zn_TS := zw_414
theorem zM_Limits_collect : zn_M zm_Limits_collect 3 := ⟨zw_9, zw_420, ⟨by decide, by decide⟩, by decide +kernel, by decide⟩
theorem zi_Limits_collect : Cond.instanceMethod zm_Limits_collect.1 ∈ zn_TS := zw_418
theorem zs_Limits_collect : Cond.selects zm_Limits_collect.1.cls zm_Limits_collect.1 zm_Limits_collect.1 ∈ zn_TS := zw_419
theorem zM_Limits_insert : zn_M zm_Limits_insert 1 := ⟨zw_9, zw_425, ⟨by decide, by decide⟩, by decide +kernel, by decide⟩
theorem zi_Limits_insert : Cond.instanceMethod zm_Limits_insert.1 ∈ zn_TS := zw_424
theorem zs_Limits_insert : Cond.selects zm_Limits_insert.1.cls zm_Limits_insert.1 zm_Limits_insert.1 ∈ zn_TS := zn_is 4 rfl
theorem zM_Limits_count : zn_M zm_Limits_count 0 := ⟨zw_9, zw_429, ⟨by decide, by decide⟩, by decide +kernel, by decide⟩
theorem zi_Limits_count : Cond.instanceMethod zm_Limits_count.1 ∈ zn_TS := zw_427
theorem zs_Limits_count : Cond.selects zm_Limits_count.1.cls zm_Limits_count.1 zm_Limits_count.1 ∈ zn_TS := zw_428
theorem zM_Math_max : zn_M zm_Math_max 2 := ⟨zw_14, zw_432, ⟨by decide, by decide⟩, by decide +kernel, by decide⟩
theorem zi_Math_max : Cond.static zm_Math_max.1 ∈ zn_TS := zw_431
theorem zM_Limits_at : zn_M zm_Limits_at 1 := ⟨zw_9, zw_436, ⟨by decide, by decide⟩, by decide +kernel, by decide⟩
theorem zi_Limits_at : Cond.instanceMethod zm_Limits_at.1 ∈ zn_TS := zw_434
theorem zs_Limits_at : Cond.selects zm_Limits_at.1.cls zm_Limits_at.1 zm_Limits_at.1 ∈ zn_TS := zw_435
theorem zM_Math_floorDiv : zn_M zm_Math_floorDiv 2 := ⟨zw_14, zw_440, ⟨by decide, by decide⟩, by decide +kernel, by decide⟩
theorem zi_Math_floorDiv : Cond.static zm_Math_floorDiv.1 ∈ zn_TS := zw_439
theorem zM_Table_rowsUpTo : zn_M zm_Table_rowsUpTo 3 := ⟨zw_2, zw_444, ⟨by decide, by decide⟩, by decide +kernel, by decide⟩
theorem zi_Table_rowsUpTo : Cond.instanceMethod zm_Table_rowsUpTo.1 ∈ zn_TS := zw_442
theorem zs_Table_rowsUpTo : Cond.selects zm_Table_rowsUpTo.1.cls zm_Table_rowsUpTo.1 zm_Table_rowsUpTo.1 ∈ zn_TS := zw_443
theorem zM_SplitSearch_weighSides : zn_M zm_SplitSearch_weighSides 3 := ⟨zw_8, zw_448, ⟨by decide, by decide⟩, by decide +kernel, by decide⟩
theorem zi_SplitSearch_weighSides : Cond.instanceMethod zm_SplitSearch_weighSides.1 ∈ zn_TS := zw_447
theorem zs_SplitSearch_weighSides : Cond.selects zm_SplitSearch_weighSides.1.cls zm_SplitSearch_weighSides.1 zm_SplitSearch_weighSides.1 ∈ zn_TS := zn_is 5 rfl
theorem zM_SplitSearch_measure : zn_M zm_SplitSearch_measure 1 := ⟨zw_8, zw_454, ⟨by decide, by decide⟩, by decide +kernel, by decide⟩
theorem zi_SplitSearch_measure : Cond.instanceMethod zm_SplitSearch_measure.1 ∈ zn_TS := zw_453
theorem zs_SplitSearch_measure : Cond.selects zm_SplitSearch_measure.1.cls zm_SplitSearch_measure.1 zm_SplitSearch_measure.1 ∈ zn_TS := zn_is 6 rfl
theorem zM_SplitSearch_measureSquares : zn_M zm_SplitSearch_measureSquares 0 := ⟨zw_8, zw_458, ⟨by decide, by decide⟩, by decide +kernel, by decide⟩
theorem zi_SplitSearch_measureSquares : Cond.instanceMethod zm_SplitSearch_measureSquares.1 ∈ zn_TS := zw_457
theorem zs_SplitSearch_measureSquares : Cond.selects zm_SplitSearch_measureSquares.1.cls zm_SplitSearch_measureSquares.1 zm_SplitSearch_measureSquares.1 ∈ zn_TS := zn_is 7 rfl
theorem zM_SplitSearch_measureMajorities : zn_M zm_SplitSearch_measureMajorities 0 := ⟨zw_8, zw_462, ⟨by decide, by decide⟩, by decide +kernel, by decide⟩
theorem zi_SplitSearch_measureMajorities : Cond.instanceMethod zm_SplitSearch_measureMajorities.1 ∈ zn_TS := zw_461
theorem zs_SplitSearch_measureMajorities : Cond.selects zm_SplitSearch_measureMajorities.1.cls zm_SplitSearch_measureMajorities.1 zm_SplitSearch_measureMajorities.1 ∈ zn_TS := zn_is 8 rfl
theorem zM_SplitSearch_measureDistance : zn_M zm_SplitSearch_measureDistance 0 := ⟨zw_8, zw_467, ⟨by decide, by decide⟩, by decide +kernel, by decide⟩
theorem zi_SplitSearch_measureDistance : Cond.instanceMethod zm_SplitSearch_measureDistance.1 ∈ zn_TS := zw_466
theorem zs_SplitSearch_measureDistance : Cond.selects zm_SplitSearch_measureDistance.1.cls zm_SplitSearch_measureDistance.1 zm_SplitSearch_measureDistance.1 ∈ zn_TS := zn_is 9 rfl
theorem zM_Math_abs : zn_M zm_Math_abs 1 := ⟨zw_14, zw_470, ⟨by decide, by decide⟩, by decide +kernel, by decide⟩
theorem zi_Math_abs : Cond.static zm_Math_abs.1 ∈ zn_TS := zw_469
theorem zM_SplitSearch_offer : zn_M zm_SplitSearch_offer 3 := ⟨zw_8, zw_474, ⟨by decide, by decide⟩, by decide +kernel, by decide⟩
theorem zi_SplitSearch_offer : Cond.instanceMethod zm_SplitSearch_offer.1 ∈ zn_TS := zw_473
theorem zs_SplitSearch_offer : Cond.selects zm_SplitSearch_offer.1.cls zm_SplitSearch_offer.1 zm_SplitSearch_offer.1 ∈ zn_TS := zn_is 10 rfl
theorem zM_Fraction_isMoreThan : zn_M zm_Fraction_isMoreThan 1 := ⟨zw_5, zw_478, ⟨by decide, by decide⟩, by decide +kernel, by decide⟩
theorem zi_Fraction_isMoreThan : Cond.instanceMethod zm_Fraction_isMoreThan.1 ∈ zn_TS := zw_476
theorem zs_Fraction_isMoreThan : Cond.selects zm_Fraction_isMoreThan.1.cls zm_Fraction_isMoreThan.1 zm_Fraction_isMoreThan.1 ∈ zn_TS := zw_477
theorem zM_Fraction_copyFrom : zn_M zm_Fraction_copyFrom 1 := ⟨zw_5, zw_482, ⟨by decide, by decide⟩, by decide +kernel, by decide⟩
theorem zi_Fraction_copyFrom : Cond.instanceMethod zm_Fraction_copyFrom.1 ∈ zn_TS := zw_480
theorem zs_Fraction_copyFrom : Cond.selects zm_Fraction_copyFrom.1.cls zm_Fraction_copyFrom.1 zm_Fraction_copyFrom.1 ∈ zn_TS := zw_481
theorem zM_StandInSearch_findFor : zn_M zm_StandInSearch_findFor 2 := ⟨zw_10, zw_486, ⟨by decide, by decide⟩, by decide +kernel, by decide⟩
theorem zi_StandInSearch_findFor : Cond.instanceMethod zm_StandInSearch_findFor.1 ∈ zn_TS := zw_484
theorem zs_StandInSearch_findFor : Cond.selects zm_StandInSearch_findFor.1.cls zm_StandInSearch_findFor.1 zm_StandInSearch_findFor.1 ∈ zn_TS := zw_485
theorem zM_StandInSearch_findAt : zn_M zm_StandInSearch_findAt 3 := ⟨zw_10, zw_490, ⟨by decide, by decide⟩, by decide +kernel, by decide⟩
theorem zi_StandInSearch_findAt : Cond.instanceMethod zm_StandInSearch_findAt.1 ∈ zn_TS := zw_489
theorem zs_StandInSearch_findAt : Cond.selects zm_StandInSearch_findAt.1.cls zm_StandInSearch_findAt.1 zm_StandInSearch_findAt.1 ∈ zn_TS := zn_is 11 rfl
theorem zM_StandInSearch_offer : zn_M zm_StandInSearch_offer 3 := ⟨zw_10, zw_501, ⟨by decide, by decide⟩, by decide +kernel, by decide⟩
theorem zi_StandInSearch_offer : Cond.instanceMethod zm_StandInSearch_offer.1 ∈ zn_TS := zw_500
theorem zs_StandInSearch_offer : Cond.selects zm_StandInSearch_offer.1.cls zm_StandInSearch_offer.1 zm_StandInSearch_offer.1 ∈ zn_TS := zn_is 12 rfl
theorem zM_Node_addStandIn : zn_M zm_Node_addStandIn 1 := ⟨zw_4, zw_505, ⟨by decide, by decide⟩, by decide +kernel, by decide⟩
theorem zi_Node_addStandIn : Cond.instanceMethod zm_Node_addStandIn.1 ∈ zn_TS := zw_503
theorem zs_Node_addStandIn : Cond.selects zm_Node_addStandIn.1.cls zm_Node_addStandIn.1 zm_Node_addStandIn.1 ∈ zn_TS := zw_504
theorem zM_StandIn_copyFrom : zn_M zm_StandIn_copyFrom 1 := ⟨zw_6, zw_509, ⟨by decide, by decide⟩, by decide +kernel, by decide⟩
theorem zi_StandIn_copyFrom : Cond.instanceMethod zm_StandIn_copyFrom.1 ∈ zn_TS := zw_507
theorem zs_StandIn_copyFrom : Cond.selects zm_StandIn_copyFrom.1.cls zm_StandIn_copyFrom.1 zm_StandIn_copyFrom.1 ∈ zn_TS := zw_508
theorem zM_Node_rowsGoingLeft : zn_M zm_Node_rowsGoingLeft 1 := ⟨zw_4, zw_513, ⟨by decide, by decide⟩, by decide +kernel, by decide⟩
theorem zi_Node_rowsGoingLeft : Cond.instanceMethod zm_Node_rowsGoingLeft.1 ∈ zn_TS := zw_511
theorem zs_Node_rowsGoingLeft : Cond.selects zm_Node_rowsGoingLeft.1.cls zm_Node_rowsGoingLeft.1 zm_Node_rowsGoingLeft.1 ∈ zn_TS := zw_512
theorem zM_Node_sendsLeft : zn_M zm_Node_sendsLeft 1 := ⟨zw_4, zw_518, ⟨by decide, by decide⟩, by decide +kernel, by decide⟩
theorem zi_Node_sendsLeft : Cond.instanceMethod zm_Node_sendsLeft.1 ∈ zn_TS := zw_516
theorem zs_Node_sendsLeft : Cond.selects zm_Node_sendsLeft.1.cls zm_Node_sendsLeft.1 zm_Node_sendsLeft.1 ∈ zn_TS := zw_517
theorem zM_StandIn_sendsLeft : zn_M zm_StandIn_sendsLeft 1 := ⟨zw_6, zw_523, ⟨by decide, by decide⟩, by decide +kernel, by decide⟩
theorem zi_StandIn_sendsLeft : Cond.instanceMethod zm_StandIn_sendsLeft.1 ∈ zn_TS := zw_521
theorem zs_StandIn_sendsLeft : Cond.selects zm_StandIn_sendsLeft.1.cls zm_StandIn_sendsLeft.1 zm_StandIn_sendsLeft.1 ∈ zn_TS := zw_522
theorem zM_Tree_kind : zn_M zm_Tree_kind 1 := ⟨zw_1, zw_527, ⟨by decide, by decide⟩, by decide +kernel, by decide⟩
theorem zi_Tree_kind : Cond.instanceMethod zm_Tree_kind.1 ∈ zn_TS := zw_525
theorem zs_Tree_kind : Cond.selects zm_Tree_kind.1.cls zm_Tree_kind.1 zm_Tree_kind.1 ∈ zn_TS := zw_526
theorem zM_Shape_at : zn_M zm_Shape_at 1 := ⟨zw_7, zw_531, ⟨by decide, by decide⟩, by decide +kernel, by decide⟩
theorem zi_Shape_at : Cond.instanceMethod zm_Shape_at.1 ∈ zn_TS := zw_529
theorem zs_Shape_at : Cond.selects zm_Shape_at.1.cls zm_Shape_at.1 zm_Shape_at.1 ∈ zn_TS := zw_530
theorem zM_Tree_rule : zn_M zm_Tree_rule 2 := ⟨zw_1, zw_535, ⟨by decide, by decide⟩, by decide +kernel, by decide⟩
theorem zi_Tree_rule : Cond.instanceMethod zm_Tree_rule.1 ∈ zn_TS := zw_533
theorem zs_Tree_rule : Cond.selects zm_Tree_rule.1.cls zm_Tree_rule.1 zm_Tree_rule.1 ∈ zn_TS := zw_534
theorem zM_Node_hasStandIn : zn_M zm_Node_hasStandIn 1 := ⟨zw_4, zw_539, ⟨by decide, by decide⟩, by decide +kernel, by decide⟩
theorem zi_Node_hasStandIn : Cond.instanceMethod zm_Node_hasStandIn.1 ∈ zn_TS := zw_537
theorem zs_Node_hasStandIn : Cond.selects zm_Node_hasStandIn.1.cls zm_Node_hasStandIn.1 zm_Node_hasStandIn.1 ∈ zn_TS := zw_538
theorem zM_StandIn_code : zn_M zm_StandIn_code 0 := ⟨zw_6, zw_543, ⟨by decide, by decide⟩, by decide +kernel, by decide⟩
theorem zi_StandIn_code : Cond.instanceMethod zm_StandIn_code.1 ∈ zn_TS := zw_541
theorem zs_StandIn_code : Cond.selects zm_StandIn_code.1.cls zm_StandIn_code.1 zm_StandIn_code.1 ∈ zn_TS := zw_542
theorem zM_Tree_threshold : zn_M zm_Tree_threshold 2 := ⟨zw_1, zw_547, ⟨by decide, by decide⟩, by decide +kernel, by decide⟩
theorem zi_Tree_threshold : Cond.instanceMethod zm_Tree_threshold.1 ∈ zn_TS := zw_545
theorem zs_Tree_threshold : Cond.selects zm_Tree_threshold.1.cls zm_Tree_threshold.1 zm_Tree_threshold.1 ∈ zn_TS := zw_546
theorem zM_Tree_gain : zn_M zm_Tree_gain 1 := ⟨zw_1, zw_551, ⟨by decide, by decide⟩, by decide +kernel, by decide⟩
theorem zi_Tree_gain : Cond.instanceMethod zm_Tree_gain.1 ∈ zn_TS := zw_549
theorem zs_Tree_gain : Cond.selects zm_Tree_gain.1.cls zm_Tree_gain.1 zm_Tree_gain.1 ∈ zn_TS := zw_550
theorem zM_Tree_rowsOf : zn_M zm_Tree_rowsOf 1 := ⟨zw_1, zw_556, ⟨by decide, by decide⟩, by decide +kernel, by decide⟩
theorem zi_Tree_rowsOf : Cond.instanceMethod zm_Tree_rowsOf.1 ∈ zn_TS := zw_554
theorem zs_Tree_rowsOf : Cond.selects zm_Tree_rowsOf.1.cls zm_Tree_rowsOf.1 zm_Tree_rowsOf.1 ∈ zn_TS := zw_555
theorem zM_Tree_classOf : zn_M zm_Tree_classOf 1 := ⟨zw_1, zw_560, ⟨by decide, by decide⟩, by decide +kernel, by decide⟩
theorem zi_Tree_classOf : Cond.instanceMethod zm_Tree_classOf.1 ∈ zn_TS := zw_558
theorem zs_Tree_classOf : Cond.selects zm_Tree_classOf.1.cls zm_Tree_classOf.1 zm_Tree_classOf.1 ∈ zn_TS := zw_559
theorem zM_Tree_error : zn_M zm_Tree_error 1 := ⟨zw_1, zw_564, ⟨by decide, by decide⟩, by decide +kernel, by decide⟩
theorem zi_Tree_error : Cond.instanceMethod zm_Tree_error.1 ∈ zn_TS := zw_562
theorem zs_Tree_error : Cond.selects zm_Tree_error.1.cls zm_Tree_error.1 zm_Tree_error.1 ∈ zn_TS := zw_563
theorem zM_Tree_reach : zn_M zm_Tree_reach 3 := ⟨zw_1, zw_568, ⟨by decide, by decide⟩, by decide +kernel, by decide⟩
theorem zi_Tree_reach : Cond.instanceMethod zm_Tree_reach.1 ∈ zn_TS := zw_566
theorem zs_Tree_reach : Cond.selects zm_Tree_reach.1.cls zm_Tree_reach.1 zm_Tree_reach.1 ∈ zn_TS := zw_567
theorem zM_Tree_endOf : zn_M zm_Tree_endOf 1 := ⟨zw_1, zw_572, ⟨by decide, by decide⟩, by decide +kernel, by decide⟩
theorem zi_Tree_endOf : Cond.instanceMethod zm_Tree_endOf.1 ∈ zn_TS := zw_571
theorem zs_Tree_endOf : Cond.selects zm_Tree_endOf.1.cls zm_Tree_endOf.1 zm_Tree_endOf.1 ∈ zn_TS := zn_is 13 rfl
theorem zM_Tree_cut : zn_M zm_Tree_cut 2 := ⟨zw_1, zw_577, ⟨by decide, by decide⟩, by decide +kernel, by decide⟩
theorem zi_Tree_cut : Cond.instanceMethod zm_Tree_cut.1 ∈ zn_TS := zw_575
theorem zs_Tree_cut : Cond.selects zm_Tree_cut.1.cls zm_Tree_cut.1 zm_Tree_cut.1 ∈ zn_TS := zw_576
theorem zM_Tree_isCutTerm : zn_M zm_Tree_isCutTerm 1 := ⟨zw_1, zw_580, ⟨by decide, by decide⟩, by decide +kernel, by decide⟩
theorem zi_Tree_isCutTerm : Cond.static zm_Tree_isCutTerm.1 ∈ zn_TS := zw_579
theorem zM_Cutter_trim : zn_M zm_Cutter_trim 5 := ⟨zw_11, zw_584, ⟨by decide, by decide⟩, by decide +kernel, by decide⟩
theorem zi_Cutter_trim : Cond.instanceMethod zm_Cutter_trim.1 ∈ zn_TS := zw_582
theorem zs_Cutter_trim : Cond.selects zm_Cutter_trim.1.cls zm_Cutter_trim.1 zm_Cutter_trim.1 ∈ zn_TS := zw_583
theorem zM_Shape_dropOrphans : zn_M zm_Shape_dropOrphans 0 := ⟨zw_7, zw_589, ⟨by decide, by decide⟩, by decide +kernel, by decide⟩
theorem zi_Shape_dropOrphans : Cond.instanceMethod zm_Shape_dropOrphans.1 ∈ zn_TS := zw_587
theorem zs_Shape_dropOrphans : Cond.selects zm_Shape_dropOrphans.1.cls zm_Shape_dropOrphans.1 zm_Shape_dropOrphans.1 ∈ zn_TS := zw_588
theorem zM_Shape_leaves : zn_M zm_Shape_leaves 0 := ⟨zw_7, zw_593, ⟨by decide, by decide⟩, by decide +kernel, by decide⟩
theorem zi_Shape_leaves : Cond.instanceMethod zm_Shape_leaves.1 ∈ zn_TS := zw_591
theorem zs_Shape_leaves : Cond.selects zm_Shape_leaves.1.cls zm_Shape_leaves.1 zm_Shape_leaves.1 ∈ zn_TS := zw_592
theorem zM_Tree_breakAt : zn_M zm_Tree_breakAt 1 := ⟨zw_1, zw_597, ⟨by decide, by decide⟩, by decide +kernel, by decide⟩
theorem zi_Tree_breakAt : Cond.instanceMethod zm_Tree_breakAt.1 ∈ zn_TS := zw_595
theorem zs_Tree_breakAt : Cond.selects zm_Tree_breakAt.1.cls zm_Tree_breakAt.1 zm_Tree_breakAt.1 ∈ zn_TS := zw_596
theorem zM_Cutter_findBreak : zn_M zm_Cutter_findBreak 3 := ⟨zw_11, zw_601, ⟨by decide, by decide⟩, by decide +kernel, by decide⟩
theorem zi_Cutter_findBreak : Cond.instanceMethod zm_Cutter_findBreak.1 ∈ zn_TS := zw_599
theorem zs_Cutter_findBreak : Cond.selects zm_Cutter_findBreak.1.cls zm_Cutter_findBreak.1 zm_Cutter_findBreak.1 ∈ zn_TS := zw_600
theorem zM_Cutter_findWeakest : zn_M zm_Cutter_findWeakest 1 := ⟨zw_11, zw_606, ⟨by decide, by decide⟩, by decide +kernel, by decide⟩
theorem zi_Cutter_findWeakest : Cond.instanceMethod zm_Cutter_findWeakest.1 ∈ zn_TS := zw_605
theorem zs_Cutter_findWeakest : Cond.selects zm_Cutter_findWeakest.1.cls zm_Cutter_findWeakest.1 zm_Cutter_findWeakest.1 ∈ zn_TS := zn_is 14 rfl
theorem zM_Tree_tally : zn_M zm_Tree_tally 0 := ⟨zw_1, zw_614, ⟨by decide, by decide⟩, by decide +kernel, by decide⟩
theorem zi_Tree_tally : Cond.instanceMethod zm_Tree_tally.1 ∈ zn_TS := zw_612
theorem zs_Tree_tally : Cond.selects zm_Tree_tally.1.cls zm_Tree_tally.1 zm_Tree_tally.1 ∈ zn_TS := zw_613
theorem zM_Ballot_add : zn_M zm_Ballot_add 2 := ⟨zw_3, zw_618, ⟨by decide, by decide⟩, by decide +kernel, by decide⟩
theorem zi_Ballot_add : Cond.instanceMethod zm_Ballot_add.1 ∈ zn_TS := zw_616
theorem zs_Ballot_add : Cond.selects zm_Ballot_add.1.cls zm_Ballot_add.1 zm_Ballot_add.1 ∈ zn_TS := zw_617
theorem zM_Tree_votes : zn_M zm_Tree_votes 2 := ⟨zw_1, zw_622, ⟨by decide, by decide⟩, by decide +kernel, by decide⟩
theorem zi_Tree_votes : Cond.instanceMethod zm_Tree_votes.1 ∈ zn_TS := zw_620
theorem zs_Tree_votes : Cond.selects zm_Tree_votes.1.cls zm_Tree_votes.1 zm_Tree_votes.1 ∈ zn_TS := zw_621
theorem zM_Tree_wrong : zn_M zm_Tree_wrong 0 := ⟨zw_1, zw_626, ⟨by decide, by decide⟩, by decide +kernel, by decide⟩
theorem zi_Tree_wrong : Cond.instanceMethod zm_Tree_wrong.1 ∈ zn_TS := zw_624
theorem zs_Tree_wrong : Cond.selects zm_Tree_wrong.1.cls zm_Tree_wrong.1 zm_Tree_wrong.1 ∈ zn_TS := zw_625
theorem zM_Ballot_choice : zn_M zm_Ballot_choice 1 := ⟨zw_3, zw_630, ⟨by decide, by decide⟩, by decide +kernel, by decide⟩
theorem zi_Ballot_choice : Cond.instanceMethod zm_Ballot_choice.1 ∈ zn_TS := zw_628
theorem zs_Ballot_choice : Cond.selects zm_Ballot_choice.1.cls zm_Ballot_choice.1 zm_Ballot_choice.1 ∈ zn_TS := zw_629
theorem zM_Ref_init : zn_M zm_Ref_init 0 := ⟨zw_12, zw_635, ⟨by decide, by decide⟩, by decide +kernel, by decide⟩
theorem zi_Ref_init : Cond.instanceMethod zm_Ref_init.1 ∈ zn_TS := zw_634
theorem zM_Ref_anew : zn_M zm_Ref_anew 0 := ⟨zw_12, zw_640, ⟨by decide, by decide⟩, by decide +kernel, by decide⟩
theorem zi_Ref_anew : Cond.instanceMethod zm_Ref_anew.1 ∈ zn_TS := zw_639
theorem zs_Ref_anew : Cond.selects zm_Ref_anew.1.cls zm_Ref_anew.1 zm_Ref_anew.1 ∈ zn_TS := zn_is 15 rfl
theorem zM_Ref_addRow : zn_M zm_Ref_addRow 4 := ⟨zw_12, zw_749, ⟨by decide, by decide⟩, by decide +kernel, by decide⟩
theorem zi_Ref_addRow : Cond.instanceMethod zm_Ref_addRow.1 ∈ zn_TS := zw_747
theorem zs_Ref_addRow : Cond.selects zm_Ref_addRow.1.cls zm_Ref_addRow.1 zm_Ref_addRow.1 ∈ zn_TS := zw_748
theorem zM_Ref_even : zn_M zm_Ref_even 0 := ⟨zw_12, zw_753, ⟨by decide, by decide⟩, by decide +kernel, by decide⟩
theorem zi_Ref_even : Cond.instanceMethod zm_Ref_even.1 ∈ zn_TS := zw_751
theorem zs_Ref_even : Cond.selects zm_Ref_even.1.cls zm_Ref_even.1 zm_Ref_even.1 ∈ zn_TS := zw_752
theorem zM_Ref_begin : zn_M zm_Ref_begin 3 := ⟨zw_12, zw_757, ⟨by decide, by decide⟩, by decide +kernel, by decide⟩
theorem zi_Ref_begin : Cond.instanceMethod zm_Ref_begin.1 ∈ zn_TS := zw_755
theorem zs_Ref_begin : Cond.selects zm_Ref_begin.1.cls zm_Ref_begin.1 zm_Ref_begin.1 ∈ zn_TS := zw_756
theorem zM_Ref_bag : zn_M zm_Ref_bag 1 := ⟨zw_12, zw_761, ⟨by decide, by decide⟩, by decide +kernel, by decide⟩
theorem zi_Ref_bag : Cond.instanceMethod zm_Ref_bag.1 ∈ zn_TS := zw_759
theorem zs_Ref_bag : Cond.selects zm_Ref_bag.1.cls zm_Ref_bag.1 zm_Ref_bag.1 ∈ zn_TS := zw_760
theorem zM_Ref_weight : zn_M zm_Ref_weight 1 := ⟨zw_12, zw_768, ⟨by decide, by decide⟩, by decide +kernel, by decide⟩
theorem zi_Ref_weight : Cond.instanceMethod zm_Ref_weight.1 ∈ zn_TS := zw_766
theorem zs_Ref_weight : Cond.selects zm_Ref_weight.1.cls zm_Ref_weight.1 zm_Ref_weight.1 ∈ zn_TS := zw_767
theorem zM_Ref_grow : zn_M zm_Ref_grow 1 := ⟨zw_12, zw_772, ⟨by decide, by decide⟩, by decide +kernel, by decide⟩
theorem zi_Ref_grow : Cond.instanceMethod zm_Ref_grow.1 ∈ zn_TS := zw_770
theorem zs_Ref_grow : Cond.selects zm_Ref_grow.1.cls zm_Ref_grow.1 zm_Ref_grow.1 ∈ zn_TS := zw_771
theorem zM_Ref_waiting : zn_M zm_Ref_waiting 0 := ⟨zw_12, zw_776, ⟨by decide, by decide⟩, by decide +kernel, by decide⟩
theorem zi_Ref_waiting : Cond.instanceMethod zm_Ref_waiting.1 ∈ zn_TS := zw_775
theorem zs_Ref_waiting : Cond.selects zm_Ref_waiting.1.cls zm_Ref_waiting.1 zm_Ref_waiting.1 ∈ zn_TS := zn_is 16 rfl
theorem zM_Ref_turn : zn_M zm_Ref_turn 1 := ⟨zw_12, zw_780, ⟨by decide, by decide⟩, by decide +kernel, by decide⟩
theorem zi_Ref_turn : Cond.instanceMethod zm_Ref_turn.1 ∈ zn_TS := zw_779
theorem zs_Ref_turn : Cond.selects zm_Ref_turn.1.cls zm_Ref_turn.1 zm_Ref_turn.1 ∈ zn_TS := zn_is 17 rfl
theorem zM_Ref_depthOf : zn_M zm_Ref_depthOf 1 := ⟨zw_12, zw_783, ⟨by decide, by decide⟩, by decide +kernel, by decide⟩
theorem zi_Ref_depthOf : Cond.static zm_Ref_depthOf.1 ∈ zn_TS := zw_782
theorem zM_Ref_seek : zn_M zm_Ref_seek 1 := ⟨zw_12, zw_787, ⟨by decide, by decide⟩, by decide +kernel, by decide⟩
theorem zi_Ref_seek : Cond.instanceMethod zm_Ref_seek.1 ∈ zn_TS := zw_786
theorem zs_Ref_seek : Cond.selects zm_Ref_seek.1.cls zm_Ref_seek.1 zm_Ref_seek.1 ∈ zn_TS := zn_is 18 rfl
theorem zM_Ref_present : zn_M zm_Ref_present 2 := ⟨zw_12, zw_791, ⟨by decide, by decide⟩, by decide +kernel, by decide⟩
theorem zi_Ref_present : Cond.instanceMethod zm_Ref_present.1 ∈ zn_TS := zw_790
theorem zs_Ref_present : Cond.selects zm_Ref_present.1.cls zm_Ref_present.1 zm_Ref_present.1 ∈ zn_TS := zn_is 19 rfl
theorem zM_Ref_has : zn_M zm_Ref_has 2 := ⟨zw_12, zw_794, ⟨by decide, by decide⟩, by decide +kernel, by decide⟩
theorem zi_Ref_has : Cond.static zm_Ref_has.1 ∈ zn_TS := zw_793
theorem zM_Ref_next : zn_M zm_Ref_next 4 := ⟨zw_12, zw_799, ⟨by decide, by decide⟩, by decide +kernel, by decide⟩
theorem zi_Ref_next : Cond.instanceMethod zm_Ref_next.1 ∈ zn_TS := zw_798
theorem zs_Ref_next : Cond.selects zm_Ref_next.1.cls zm_Ref_next.1 zm_Ref_next.1 ∈ zn_TS := zn_is 20 rfl
theorem zM_Ref_between : zn_M zm_Ref_between 3 := ⟨zw_12, zw_803, ⟨by decide, by decide⟩, by decide +kernel, by decide⟩
theorem zi_Ref_between : Cond.instanceMethod zm_Ref_between.1 ∈ zn_TS := zw_802
theorem zs_Ref_between : Cond.selects zm_Ref_between.1.cls zm_Ref_between.1 zm_Ref_between.1 ∈ zn_TS := zn_is 21 rfl
theorem zM_Ref_upTo : zn_M zm_Ref_upTo 3 := ⟨zw_12, zw_807, ⟨by decide, by decide⟩, by decide +kernel, by decide⟩
theorem zi_Ref_upTo : Cond.instanceMethod zm_Ref_upTo.1 ∈ zn_TS := zw_806
theorem zs_Ref_upTo : Cond.selects zm_Ref_upTo.1.cls zm_Ref_upTo.1 zm_Ref_upTo.1 ∈ zn_TS := zn_is 22 rfl
theorem zM_Ref_weigh : zn_M zm_Ref_weigh 2 := ⟨zw_12, zw_811, ⟨by decide, by decide⟩, by decide +kernel, by decide⟩
theorem zi_Ref_weigh : Cond.instanceMethod zm_Ref_weigh.1 ∈ zn_TS := zw_810
theorem zs_Ref_weigh : Cond.selects zm_Ref_weigh.1.cls zm_Ref_weigh.1 zm_Ref_weigh.1 ∈ zn_TS := zn_is 23 rfl
theorem zM_Ref_gainOf : zn_M zm_Ref_gainOf 2 := ⟨zw_12, zw_815, ⟨by decide, by decide⟩, by decide +kernel, by decide⟩
theorem zi_Ref_gainOf : Cond.instanceMethod zm_Ref_gainOf.1 ∈ zn_TS := zw_814
theorem zs_Ref_gainOf : Cond.selects zm_Ref_gainOf.1.cls zm_Ref_gainOf.1 zm_Ref_gainOf.1 ∈ zn_TS := zn_is 24 rfl
theorem zM_Ref_greatest : zn_M zm_Ref_greatest 1 := ⟨zw_12, zw_819, ⟨by decide, by decide⟩, by decide +kernel, by decide⟩
theorem zi_Ref_greatest : Cond.instanceMethod zm_Ref_greatest.1 ∈ zn_TS := zw_818
theorem zs_Ref_greatest : Cond.selects zm_Ref_greatest.1.cls zm_Ref_greatest.1 zm_Ref_greatest.1 ∈ zn_TS := zn_is 25 rfl
theorem zM_Ref_classIn : zn_M zm_Ref_classIn 1 := ⟨zw_12, zw_823, ⟨by decide, by decide⟩, by decide +kernel, by decide⟩
theorem zi_Ref_classIn : Cond.instanceMethod zm_Ref_classIn.1 ∈ zn_TS := zw_822
theorem zs_Ref_classIn : Cond.selects zm_Ref_classIn.1.cls zm_Ref_classIn.1 zm_Ref_classIn.1 ∈ zn_TS := zn_is 26 rfl
theorem zM_Ref_goes : zn_M zm_Ref_goes 4 := ⟨zw_12, zw_827, ⟨by decide, by decide⟩, by decide +kernel, by decide⟩
theorem zi_Ref_goes : Cond.instanceMethod zm_Ref_goes.1 ∈ zn_TS := zw_826
theorem zs_Ref_goes : Cond.selects zm_Ref_goes.1.cls zm_Ref_goes.1 zm_Ref_goes.1 ∈ zn_TS := zn_is 27 rfl
theorem zM_Ref_standIns : zn_M zm_Ref_standIns 1 := ⟨zw_12, zw_831, ⟨by decide, by decide⟩, by decide +kernel, by decide⟩
theorem zi_Ref_standIns : Cond.instanceMethod zm_Ref_standIns.1 ∈ zn_TS := zw_830
theorem zs_Ref_standIns : Cond.selects zm_Ref_standIns.1.cls zm_Ref_standIns.1 zm_Ref_standIns.1 ∈ zn_TS := zn_is 28 rfl
theorem zM_Ref_standIn : zn_M zm_Ref_standIn 2 := ⟨zw_12, zw_835, ⟨by decide, by decide⟩, by decide +kernel, by decide⟩
theorem zi_Ref_standIn : Cond.instanceMethod zm_Ref_standIn.1 ∈ zn_TS := zw_834
theorem zs_Ref_standIn : Cond.selects zm_Ref_standIn.1.cls zm_Ref_standIn.1 zm_Ref_standIn.1 ∈ zn_TS := zn_is 29 rfl
theorem zM_Ref_consider : zn_M zm_Ref_consider 3 := ⟨zw_12, zw_839, ⟨by decide, by decide⟩, by decide +kernel, by decide⟩
theorem zi_Ref_consider : Cond.instanceMethod zm_Ref_consider.1 ∈ zn_TS := zw_838
theorem zs_Ref_consider : Cond.selects zm_Ref_consider.1.cls zm_Ref_consider.1 zm_Ref_consider.1 ∈ zn_TS := zn_is 30 rfl
theorem zM_Ref_kind : zn_M zm_Ref_kind 1 := ⟨zw_12, zw_843, ⟨by decide, by decide⟩, by decide +kernel, by decide⟩
theorem zi_Ref_kind : Cond.instanceMethod zm_Ref_kind.1 ∈ zn_TS := zw_841
theorem zs_Ref_kind : Cond.selects zm_Ref_kind.1.cls zm_Ref_kind.1 zm_Ref_kind.1 ∈ zn_TS := zw_842
theorem zM_Ref_findErrors : zn_M zm_Ref_findErrors 0 := ⟨zw_12, zw_847, ⟨by decide, by decide⟩, by decide +kernel, by decide⟩
theorem zi_Ref_findErrors : Cond.instanceMethod zm_Ref_findErrors.1 ∈ zn_TS := zw_846
theorem zs_Ref_findErrors : Cond.selects zm_Ref_findErrors.1.cls zm_Ref_findErrors.1 zm_Ref_findErrors.1 ∈ zn_TS := zn_is 31 rfl
theorem zM_Ref_errorIn : zn_M zm_Ref_errorIn 1 := ⟨zw_12, zw_851, ⟨by decide, by decide⟩, by decide +kernel, by decide⟩
theorem zi_Ref_errorIn : Cond.instanceMethod zm_Ref_errorIn.1 ∈ zn_TS := zw_850
theorem zs_Ref_errorIn : Cond.selects zm_Ref_errorIn.1.cls zm_Ref_errorIn.1 zm_Ref_errorIn.1 ∈ zn_TS := zn_is 32 rfl
theorem zM_Ref_shape : zn_M zm_Ref_shape 2 := ⟨zw_12, zw_855, ⟨by decide, by decide⟩, by decide +kernel, by decide⟩
theorem zi_Ref_shape : Cond.instanceMethod zm_Ref_shape.1 ∈ zn_TS := zw_854
theorem zs_Ref_shape : Cond.selects zm_Ref_shape.1.cls zm_Ref_shape.1 zm_Ref_shape.1 ∈ zn_TS := zn_is 33 rfl
theorem zM_Ref_rule : zn_M zm_Ref_rule 2 := ⟨zw_12, zw_859, ⟨by decide, by decide⟩, by decide +kernel, by decide⟩
theorem zi_Ref_rule : Cond.instanceMethod zm_Ref_rule.1 ∈ zn_TS := zw_857
theorem zs_Ref_rule : Cond.selects zm_Ref_rule.1.cls zm_Ref_rule.1 zm_Ref_rule.1 ∈ zn_TS := zw_858
theorem zM_Ref_threshold : zn_M zm_Ref_threshold 2 := ⟨zw_12, zw_864, ⟨by decide, by decide⟩, by decide +kernel, by decide⟩
theorem zi_Ref_threshold : Cond.instanceMethod zm_Ref_threshold.1 ∈ zn_TS := zw_862
theorem zs_Ref_threshold : Cond.selects zm_Ref_threshold.1.cls zm_Ref_threshold.1 zm_Ref_threshold.1 ∈ zn_TS := zw_863
theorem zM_Ref_gain : zn_M zm_Ref_gain 1 := ⟨zw_12, zw_869, ⟨by decide, by decide⟩, by decide +kernel, by decide⟩
theorem zi_Ref_gain : Cond.instanceMethod zm_Ref_gain.1 ∈ zn_TS := zw_867
theorem zs_Ref_gain : Cond.selects zm_Ref_gain.1.cls zm_Ref_gain.1 zm_Ref_gain.1 ∈ zn_TS := zw_868
theorem zM_Ref_rowsOf : zn_M zm_Ref_rowsOf 1 := ⟨zw_12, zw_874, ⟨by decide, by decide⟩, by decide +kernel, by decide⟩
theorem zi_Ref_rowsOf : Cond.instanceMethod zm_Ref_rowsOf.1 ∈ zn_TS := zw_872
theorem zs_Ref_rowsOf : Cond.selects zm_Ref_rowsOf.1.cls zm_Ref_rowsOf.1 zm_Ref_rowsOf.1 ∈ zn_TS := zw_873
theorem zM_Ref_classOf : zn_M zm_Ref_classOf 1 := ⟨zw_12, zw_878, ⟨by decide, by decide⟩, by decide +kernel, by decide⟩
theorem zi_Ref_classOf : Cond.instanceMethod zm_Ref_classOf.1 ∈ zn_TS := zw_876
theorem zs_Ref_classOf : Cond.selects zm_Ref_classOf.1.cls zm_Ref_classOf.1 zm_Ref_classOf.1 ∈ zn_TS := zw_877
theorem zM_Ref_error : zn_M zm_Ref_error 1 := ⟨zw_12, zw_882, ⟨by decide, by decide⟩, by decide +kernel, by decide⟩
theorem zi_Ref_error : Cond.instanceMethod zm_Ref_error.1 ∈ zn_TS := zw_880
theorem zs_Ref_error : Cond.selects zm_Ref_error.1.cls zm_Ref_error.1 zm_Ref_error.1 ∈ zn_TS := zw_881
theorem zM_Ref_reach : zn_M zm_Ref_reach 3 := ⟨zw_12, zw_886, ⟨by decide, by decide⟩, by decide +kernel, by decide⟩
theorem zi_Ref_reach : Cond.instanceMethod zm_Ref_reach.1 ∈ zn_TS := zw_884
theorem zs_Ref_reach : Cond.selects zm_Ref_reach.1.cls zm_Ref_reach.1 zm_Ref_reach.1 ∈ zn_TS := zw_885
theorem zM_Ref_cut : zn_M zm_Ref_cut 2 := ⟨zw_12, zw_890, ⟨by decide, by decide⟩, by decide +kernel, by decide⟩
theorem zi_Ref_cut : Cond.instanceMethod zm_Ref_cut.1 ∈ zn_TS := zw_888
theorem zs_Ref_cut : Cond.selects zm_Ref_cut.1.cls zm_Ref_cut.1 zm_Ref_cut.1 ∈ zn_TS := zw_889
theorem zM_Ref_breakAt : zn_M zm_Ref_breakAt 1 := ⟨zw_12, zw_894, ⟨by decide, by decide⟩, by decide +kernel, by decide⟩
theorem zi_Ref_breakAt : Cond.instanceMethod zm_Ref_breakAt.1 ∈ zn_TS := zw_892
theorem zs_Ref_breakAt : Cond.selects zm_Ref_breakAt.1.cls zm_Ref_breakAt.1 zm_Ref_breakAt.1 ∈ zn_TS := zw_893
theorem zM_Ref_lowest : zn_M zm_Ref_lowest 2 := ⟨zw_12, zw_897, ⟨by decide, by decide⟩, by decide +kernel, by decide⟩
theorem zi_Ref_lowest : Cond.static zm_Ref_lowest.1 ∈ zn_TS := zw_896
theorem zM_Ref_breaksAt : zn_M zm_Ref_breaksAt 2 := ⟨zw_12, zw_901, ⟨by decide, by decide⟩, by decide +kernel, by decide⟩
theorem zi_Ref_breaksAt : Cond.instanceMethod zm_Ref_breaksAt.1 ∈ zn_TS := zw_900
theorem zs_Ref_breaksAt : Cond.selects zm_Ref_breaksAt.1.cls zm_Ref_breaksAt.1 zm_Ref_breaksAt.1 ∈ zn_TS := zn_is 34 rfl
theorem zM_Ref_insert : zn_M zm_Ref_insert 2 := ⟨zw_12, zw_905, ⟨by decide, by decide⟩, by decide +kernel, by decide⟩
theorem zi_Ref_insert : Cond.instanceMethod zm_Ref_insert.1 ∈ zn_TS := zw_904
theorem zs_Ref_insert : Cond.selects zm_Ref_insert.1.cls zm_Ref_insert.1 zm_Ref_insert.1 ∈ zn_TS := zn_is 35 rfl
theorem zM_Ref_tally : zn_M zm_Ref_tally 0 := ⟨zw_12, zw_909, ⟨by decide, by decide⟩, by decide +kernel, by decide⟩
theorem zi_Ref_tally : Cond.instanceMethod zm_Ref_tally.1 ∈ zn_TS := zw_907
theorem zs_Ref_tally : Cond.selects zm_Ref_tally.1.cls zm_Ref_tally.1 zm_Ref_tally.1 ∈ zn_TS := zw_908
theorem zM_Ref_votes : zn_M zm_Ref_votes 2 := ⟨zw_12, zw_914, ⟨by decide, by decide⟩, by decide +kernel, by decide⟩
theorem zi_Ref_votes : Cond.instanceMethod zm_Ref_votes.1 ∈ zn_TS := zw_912
theorem zs_Ref_votes : Cond.selects zm_Ref_votes.1.cls zm_Ref_votes.1 zm_Ref_votes.1 ∈ zn_TS := zw_913
theorem zM_Ref_wrong : zn_M zm_Ref_wrong 0 := ⟨zw_12, zw_918, ⟨by decide, by decide⟩, by decide +kernel, by decide⟩
theorem zi_Ref_wrong : Cond.instanceMethod zm_Ref_wrong.1 ∈ zn_TS := zw_916
theorem zs_Ref_wrong : Cond.selects zm_Ref_wrong.1.cls zm_Ref_wrong.1 zm_Ref_wrong.1 ∈ zn_TS := zw_917
end
section
/-! where each cell lies, counted from the base, once both objects are made -/
abbrev zk_N : Nat := 242
/-- class and reference: what each cell is -/
def zk_K : zg_K := fun a =>
  bif Nat.blt a 40 then
    bif Nat.blt a 19 then (bif Nat.blt a 2 then (bif Nat.beq a 0 then (0, 0) else (0, 1)) else bif Nat.beq a 2 then (6, 16) else (1, 3))
    else bif Nat.blt a 23 then (bif Nat.blt a 21 then (1, 16) else bif Nat.beq a 21 then (0, 2) else (6, 16))
    else (bif Nat.blt a 39 then (1, 4) else (4, 32))
  else bif Nat.blt a 200 then
    (bif Nat.beq ((a - 40) % 5) 0 then (0, 3) else bif Nat.beq ((a - 40) % 5) 1 then (0, 4) else bif Nat.beq ((a - 40) % 5) 2 then (5, 2) else (0, 5))
  else bif Nat.blt a 214 then
    bif Nat.blt a 207 then (bif Nat.blt a 204 then (bif Nat.beq (a % 2) 0 then (0, 6) else (1, 32)) else bif Nat.beq a 204 then (0, 7) else bif Nat.beq a 205 then (0, 8) else (1, 16))
    else bif Nat.blt a 210 then (bif Nat.beq a 209 then (0, 4) else (1, 4)) else bif Nat.beq a 210 then (0, 9) else bif Nat.beq a 211 then (0, 8) else bif Nat.beq a 212 then (1, 16) else (0, 5)
  else bif Nat.blt a 223 then
    bif Nat.blt a 217 then (bif Nat.beq a 214 then (0, 10) else bif Nat.beq a 215 then (0, 4) else (0, 6))
    else bif Nat.beq a 218 then (0, 4) else bif Nat.beq a 222 then (1, 3) else (1, 32)
  else bif Nat.blt a 228 then
    (bif Nat.beq a 223 then (0, 11) else bif Nat.beq a 224 then (1, 48) else bif Nat.beq a 227 then (1, 64) else (1, 16))
  else bif Nat.blt a 232 then (1, 32)
  else bif Nat.blt a 236 then (1, 2)
  else bif Nat.blt a 240 then (bif Nat.beq a 237 then (2, 32) else bif Nat.beq a 239 then (3, 32) else (1, 32))
  else (1, 16)
/-- what each cell names; sh: the shape that is shown -/
def zk_P (sh : Nat) : zg_P := fun a j =>
  bif Nat.blt a 40 then
    bif Nat.beq a 0 then
      (bif Nat.blt j 4 then (bif Nat.beq j 0 then some 1 else bif Nat.beq j 1 then some 21 else bif Nat.beq j 2 then some 39 else some 200)
       else bif Nat.beq j 4 then some 202 else bif Nat.beq j 5 then some 204 else bif Nat.beq j 6 then some 210 else bif Nat.beq j 7 then some 214 else bif Nat.beq j 8 then some 222 else bif Nat.beq j 9 then some sh else none)
    else bif Nat.beq a 1 then (bif Nat.beq j 0 then some 2 else bif Nat.beq j 1 then some 19 else bif Nat.beq j 2 then some 20 else none)
    else bif Nat.beq a 2 then (bif Nat.blt j 16 then some (3 + j) else none)
    else bif Nat.beq a 21 then (bif Nat.beq j 0 then some 22 else none)
    else bif Nat.beq a 22 then (bif Nat.blt j 16 then some (23 + j) else none)
    else bif Nat.beq a 39 then (bif Nat.blt j 32 then some (40 + 5 * j) else none)
    else none
  else bif Nat.blt a 200 then
    (bif Nat.beq ((a - 40) % 5) 0 then (bif Nat.beq j 5 then some (a + 1) else bif Nat.beq j 7 then some (a + 2) else none)
     else bif Nat.beq ((a - 40) % 5) 2 then (bif Nat.beq j 0 then some (a + 1) else bif Nat.beq j 1 then some (a + 2) else none) else none)
  else bif Nat.blt a 204 then (bif Nat.beq (a % 2) 0 then (bif Nat.beq j 0 then some (a + 1) else none) else none)
  else bif Nat.beq a 204 then (bif Nat.beq j 0 then some 205 else bif Nat.beq j 1 then some 207 else bif Nat.beq j 2 then some 208 else bif Nat.beq j 5 then some 209 else none)
  else bif Nat.beq a 205 then (bif Nat.beq j 0 then some 206 else none)
  else bif Nat.beq a 210 then (bif Nat.beq j 0 then some 211 else bif Nat.beq j 1 then some 213 else none)
  else bif Nat.beq a 211 then (bif Nat.beq j 0 then some 212 else none)
  else bif Nat.beq a 214 then (bif Nat.beq j 0 then some 215 else bif Nat.beq j 1 then some 216 else bif Nat.beq j 2 then some 218 else bif Nat.beq j 3 then some 219 else bif Nat.beq j 4 then some 220 else bif Nat.beq j 5 then some 221 else none)
  else bif Nat.beq a 216 then (bif Nat.beq j 0 then some 217 else none)
  else bif Nat.beq a 223 then
    (bif Nat.blt j 8 then (bif Nat.beq j 1 then some 224 else bif Nat.beq j 2 then some 225 else bif Nat.beq j 3 then some 226 else bif Nat.beq j 4 then some 227 else none)
     else bif Nat.blt j 12 then some (220 + j)
     else bif Nat.blt j 20 then none
     else bif Nat.blt j 24 then some (212 + j)
     else bif Nat.blt j 27 then none
     else bif Nat.blt j 31 then some (209 + j)
     else bif Nat.beq j 31 then none
     else bif Nat.blt j 34 then some (208 + j) else none)
  else none
theorem zk_node : ∀ k, k < 32 → zk_K (40 + 5 * k) = (0, 3) ∧ zk_K (41 + 5 * k) = (0, 4) ∧ zk_K (42 + 5 * k) = (5, 2) ∧ zk_K (43 + 5 * k) = (0, 5) ∧ zk_K (44 + 5 * k) = (0, 5) := by decide +kernel
theorem zk_row : ∀ r, r < 16 → zk_K (3 + r) = (1, 3) ∧ zk_K (23 + r) = (1, 4) := by decide +kernel
theorem zp_nodes {sh : Nat} {k : Nat} (h : k < 32) : zk_P sh 39 k = some (40 + 5 * k) := by
  show (bif Nat.blt k 32 then some (40 + 5 * k) else none) = _
  rw [show Nat.blt k 32 = true from Nat.ble_eq_true_of_le h]; rfl
theorem zp_values {sh : Nat} {r : Nat} (h : r < 16) : zk_P sh 2 r = some (3 + r) := by
  show (bif Nat.blt r 16 then some (3 + r) else none) = _
  rw [show Nat.blt r 16 = true from Nat.ble_eq_true_of_le h]; rfl
theorem zp_counts {sh : Nat} {r : Nat} (h : r < 16) : zk_P sh 22 r = some (23 + r) := by
  show (bif Nat.blt r 16 then some (23 + r) else none) = _
  rw [show Nat.blt r 16 = true from Nat.ble_eq_true_of_le h]; rfl
theorem zp_node0 (sh : Nat) : ∀ k, k < 32 → zk_P 0 (40 + 5 * k) 5 = some (41 + 5 * k) ∧ zk_P 0 (40 + 5 * k) 7 = some (42 + 5 * k) ∧ zk_P 0 (42 + 5 * k) 0 = some (43 + 5 * k) ∧ zk_P 0 (42 + 5 * k) 1 = some (44 + 5 * k) := by decide +kernel
theorem zp_sh {sh : Nat} {a : Nat} (h : 0 < a) (j : Nat) : zk_P sh a j = zk_P 0 a j := by
  have e : Nat.beq a 0 = false := by cases a with | zero => omega | succ n => rfl
  unfold zk_P
  rw [e]
  rfl
theorem zp_node {sh : Nat} {k : Nat} (h : k < 32) : zk_P sh (40 + 5 * k) 5 = some (41 + 5 * k) ∧ zk_P sh (40 + 5 * k) 7 = some (42 + 5 * k) ∧ zk_P sh (42 + 5 * k) 0 = some (43 + 5 * k) ∧ zk_P sh (42 + 5 * k) 1 = some (44 + 5 * k) := by
  rw [zp_sh (sh := sh) (show 0 < 40 + 5 * k by omega), zp_sh (sh := sh) (show 0 < 40 + 5 * k by omega), zp_sh (sh := sh) (show 0 < 42 + 5 * k by omega), zp_sh (sh := sh) (show 0 < 42 + 5 * k by omega)]
  exact zp_node0 sh k h
end
section
/-! Pure rows: sets of rows as numbers; sums -/
theorem zb_or (a b : Nat) : Int32.ofInt (a : Int) ||| Int32.ofInt (b : Int) = Int32.ofInt ((a ||| b : Nat) : Int) := by
  apply Int32.toBitVec_inj.1
  show BitVec.ofInt 32 (a : Int) ||| BitVec.ofInt 32 (b : Int) = BitVec.ofInt 32 ((a ||| b : Nat) : Int)
  simp only [BitVec.ofInt_natCast, BitVec.ofNat_or]
theorem zb_and (a b : Nat) : Int32.ofInt (a : Int) &&& Int32.ofInt (b : Int) = Int32.ofInt ((a &&& b : Nat) : Int) := by
  apply Int32.toBitVec_inj.1
  show BitVec.ofInt 32 (a : Int) &&& BitVec.ofInt 32 (b : Int) = BitVec.ofInt 32 ((a &&& b : Nat) : Int)
  simp only [BitVec.ofInt_natCast, BitVec.ofNat_and]
theorem zb_xor (a b : Nat) : Int32.ofInt (a : Int) ^^^ Int32.ofInt (b : Int) = Int32.ofInt ((a ^^^ b : Nat) : Int) := by
  apply Int32.toBitVec_inj.1
  show BitVec.ofInt 32 (a : Int) ^^^ BitVec.ofInt 32 (b : Int) = BitVec.ofInt 32 ((a ^^^ b : Nat) : Int)
  simp only [BitVec.ofInt_natCast, BitVec.ofNat_xor]
/-- the rows of a that are not in b -/
def zb_df (a b : Nat) : Nat := a ^^^ (a &&& b)
theorem zb_df_bit (a b i : Nat) : (zb_df a b).testBit i = (a.testBit i && !b.testBit i) := by
  unfold zb_df
  rw [Nat.testBit_xor, Nat.testBit_and]
  cases a.testBit i <;> cases b.testBit i <;> rfl
theorem zb_andnot (a b : Nat) : Int32.ofInt (a : Int) &&& (Int32.ofInt (b : Int) ^^^ Int32.ofInt (-1)) = Int32.ofInt ((zb_df a b : Nat) : Int) := by
  unfold zb_df
  rw [← zb_xor, ← zb_and]
  generalize Int32.ofInt (a : Int) = x
  generalize Int32.ofInt (b : Int) = y
  apply Int32.toBitVec_inj.1
  show x.toBitVec &&& (y.toBitVec ^^^ BitVec.ofInt 32 (-1)) = x.toBitVec ^^^ (x.toBitVec &&& y.toBitVec)
  generalize x.toBitVec = u
  generalize y.toBitVec = v
  have hm : (BitVec.ofInt 32 (-1)) = BitVec.allOnes 32 := by decide
  rw [hm]
  apply BitVec.eq_of_getLsbD_eq
  intro i hi
  simp only [BitVec.getLsbD_and, BitVec.getLsbD_xor, BitVec.getLsbD_allOnes, hi, decide_true]
  cases u.getLsbD i <;> cases v.getLsbD i <;> rfl
theorem zb_shl : ∀ r : Nat, r < 31 → Int32.ofInt 1 <<< (Int32.ofInt (r : Int) &&& 31) = Int32.ofInt ((2 ^ r : Nat) : Int) := by decide +kernel
theorem zb_am : ∀ r : Nat, r < 31 → ((Int32.ofInt (r : Int) &&& 31).toBitVec.smod 32).toNat = r := by decide +kernel
theorem zb_shr {s r : Nat} (hs : s < 2147483648) (hr : r < 31) : Int32.ofInt (s : Int) >>> (Int32.ofInt (r : Int) &&& 31) = Int32.ofInt ((s >>> r : Nat) : Int) := by
  apply Int32.toBitVec_inj.1
  rw [Int32.toBitVec_shiftRight]
  show (BitVec.ofInt 32 (s : Int)).sshiftRight' _ = BitVec.ofInt 32 ((s >>> r : Nat) : Int)
  rw [BitVec.sshiftRight_eq', zb_am r hr, BitVec.ofInt_natCast, BitVec.ofInt_natCast]
  have hm : (BitVec.ofNat 32 s).msb = false := by
    rw [BitVec.msb_eq_false_iff_two_mul_lt, BitVec.toNat_ofNat, Nat.mod_eq_of_lt (by omega)]
    omega
  rw [BitVec.sshiftRight_eq_of_msb_false hm]
  apply BitVec.eq_of_toNat_eq
  rw [BitVec.toNat_ushiftRight, BitVec.toNat_ofNat, BitVec.toNat_ofNat, Nat.mod_eq_of_lt (by omega), Nat.mod_eq_of_lt]
  exact Nat.lt_of_le_of_lt (by rw [Nat.shiftRight_eq_div_pow]; exact Nat.div_le_self _ _) (show s < 2 ^ 32 by omega)
theorem zb_bit {s r : Nat} (hs : s < 2147483648) (hr : r < 31) : (Int32.ofInt (s : Int) >>> (Int32.ofInt (r : Int) &&& 31)) &&& Int32.ofInt 1 = Int32.ofInt (if s.testBit r then 1 else 0) := by
  rw [zb_shr hs hr]
  have h : Int32.ofInt ((s >>> r : Nat) : Int) &&& Int32.ofInt ((1 : Nat) : Int) = Int32.ofInt (((s >>> r) &&& 1 : Nat) : Int) := zb_and _ _
  refine h.trans ?_
  congr 1
  rw [Nat.and_one_is_mod, Nat.testBit_eq_decide_div_mod_eq, Nat.shiftRight_eq_div_pow]
  by_cases q : s / 2 ^ r % 2 = 1
  · simp [q]
  · have q0 : s / 2 ^ r % 2 = 0 := by omega
    simp [q0]
/-- the rows below n with p -/
def zs_mk (p : Nat → Bool) : Nat → Nat
  | 0 => 0
  | n + 1 => if p n then zs_mk p n ||| 2 ^ n else zs_mk p n
theorem zs_mk_bit (p : Nat → Bool) : ∀ (n i : Nat), (zs_mk p n).testBit i = (decide (i < n) && p i)
  | 0, i => by simp [zs_mk]
  | n + 1, i => by
    unfold zs_mk
    have ih := zs_mk_bit p n i
    by_cases h : p n
    · rw [if_pos h, Nat.testBit_or, ih, Nat.testBit_two_pow]
      by_cases e : n = i
      · subst e; simp [h]
      · have : decide (i < n + 1) = decide (i < n) := by congr 1; apply propext; omega
        simp [e, this]
    · rw [if_neg h, ih]
      by_cases e : n = i
      · subst e; simp [h]
      · have : decide (i < n + 1) = decide (i < n) := by congr 1; apply propext; omega
        rw [this]
theorem zs_mk_lt (p : Nat → Bool) (n : Nat) : zs_mk p n < 2 ^ n := by
  apply Nat.lt_pow_two_of_testBit
  intro i hi
  rw [zs_mk_bit]
  simp
  omega
def zs_sum (f : Nat → Int) : Nat → Int
  | 0 => 0
  | n + 1 => zs_sum f n + f n
theorem zs_sum_congr {f g : Nat → Int} : ∀ {n : Nat}, (∀ i, i < n → f i = g i) → zs_sum f n = zs_sum g n
  | 0, _ => rfl
  | n + 1, h => by
    show zs_sum f n + f n = zs_sum g n + g n
    rw [zs_sum_congr (fun i hi => h i (by omega)), h n (by omega)]
theorem zs_sum_add (f g : Nat → Int) : ∀ n, zs_sum (fun i => f i + g i) n = zs_sum f n + zs_sum g n
  | 0 => rfl
  | n + 1 => by
    show zs_sum _ n + (f n + g n) = (zs_sum f n + f n) + (zs_sum g n + g n)
    rw [zs_sum_add f g n]
    omega
theorem zs_sum_nonneg {f : Nat → Int} : ∀ {n : Nat}, (∀ i, i < n → 0 ≤ f i) → 0 ≤ zs_sum f n
  | 0, _ => Int.le_refl 0
  | n + 1, h => by
    have := zs_sum_nonneg (fun i hi => h i (by omega) : ∀ i, i < n → 0 ≤ f i)
    have := h n (by omega)
    show 0 ≤ zs_sum f n + f n
    omega
theorem zs_sum_le {f g : Nat → Int} : ∀ {n : Nat}, (∀ i, i < n → f i ≤ g i) → zs_sum f n ≤ zs_sum g n
  | 0, _ => Int.le_refl 0
  | n + 1, h => by
    have := zs_sum_le (fun i hi => h i (by omega) : ∀ i, i < n → f i ≤ g i)
    have := h n (by omega)
    show zs_sum f n + f n ≤ zs_sum g n + g n
    omega
theorem zs_sum_mono {f : Nat → Int} {m : Nat} : ∀ {n : Nat}, m ≤ n → (∀ i, i < n → 0 ≤ f i) → zs_sum f m ≤ zs_sum f n
  | 0, h, _ => by rw [show m = 0 by omega]; exact Int.le_refl _
  | n + 1, h, h0 => by
    by_cases e : m = n + 1
    · rw [e]; exact Int.le_refl _
    · have := zs_sum_mono (show m ≤ n by omega) (fun i hi => h0 i (by omega) : ∀ i, i < n → 0 ≤ f i)
      have := h0 n (by omega)
      show zs_sum f m ≤ zs_sum f n + f n
      omega
/-- quotient and rest of numbers that are not below 0 -/
theorem zb_div {a b : Int} (ha : 0 ≤ a) (ha2 : a < 2147483648) (hb : 0 < b ∧ b < 2147483648) : Int32.ofInt a / Int32.ofInt b = Int32.ofInt (a / b) := by
  apply Int32.toInt_inj.mp
  have h1 : (Int32.ofInt a).toInt = a := Int32.toInt_ofInt_of_le (by omega) (by omega)
  have h2 : (Int32.ofInt b).toInt = b := Int32.toInt_ofInt_of_le (by omega) (by omega)
  have h3 : 0 ≤ a / b := Int.ediv_nonneg ha (by omega)
  have h4 : a / b ≤ a := Int.ediv_le_self b ha
  rw [Int32.toInt_div, h1, h2, Int.tdiv_eq_ediv_of_nonneg ha, Int32.toInt_ofInt_of_le (by omega) (by omega)]
  exact Int.bmod_eq_of_le (by omega) (by omega)
theorem zb_rem {a b : Int} (ha : 0 ≤ a) (ha2 : a < 2147483648) (hb : 0 < b ∧ b < 2147483648) : Int32.ofInt a - Int32.ofInt a / Int32.ofInt b * Int32.ofInt b = Int32.ofInt (a % b) := by
  rw [zb_div ha ha2 hb, ← Int32.ofInt_mul, ← Int32.ofInt_sub]
  congr 1
  have := Int.emod_add_mul_ediv a b
  rw [Int.mul_comm (a / b) b]
  omega
theorem zb_ldiv {a b : Int} (ha : 0 ≤ a) (ha2 : a < 9223372036854775808) (hb : 0 < b ∧ b < 9223372036854775808) : Int64.ofInt a / Int64.ofInt b = Int64.ofInt (a / b) := by
  apply Int64.toInt_inj.mp
  have h1 : (Int64.ofInt a).toInt = a := Int64.toInt_ofInt_of_le (by omega) (by omega)
  have h2 : (Int64.ofInt b).toInt = b := Int64.toInt_ofInt_of_le (by omega) (by omega)
  have h3 : 0 ≤ a / b := Int.ediv_nonneg ha (by omega)
  have h4 : a / b ≤ a := Int.ediv_le_self b ha
  rw [Int64.toInt_div, h1, h2, Int.tdiv_eq_ediv_of_nonneg ha, Int64.toInt_ofInt_of_le (by omega) (by omega)]
  exact Int.bmod_eq_of_le (by omega) (by omega)
theorem zb_lrem {a b : Int} (ha : 0 ≤ a) (ha2 : a < 9223372036854775808) (hb : 0 < b ∧ b < 9223372036854775808) : Int64.ofInt a - Int64.ofInt a / Int64.ofInt b * Int64.ofInt b = Int64.ofInt (a % b) := by
  rw [zb_ldiv ha ha2 hb, ← Int64.ofInt_mul, ← Int64.ofInt_sub]
  congr 1
  have := Int.emod_add_mul_ediv a b
  rw [Int.mul_comm (a / b) b]
  omega
/-- the top five bits of a long -/
def zb_top (z : Int) : Int := z % 18446744073709551616 / 576460752303423488
theorem zb_top_b (z : Int) : 0 ≤ zb_top z ∧ zb_top z < 32 := by
  unfold zb_top
  have h1 := Int.emod_nonneg z (show (18446744073709551616 : Int) ≠ 0 by decide)
  have h2 := Int.emod_lt_of_pos z (show (0 : Int) < 18446744073709551616 by decide)
  omega
theorem zb_lushr (z : Int) : ((Int64.ofInt z).toUInt64 >>> ((Int32.ofInt 59).toInt64.toUInt64 &&& Int64.toUInt64 63)).toInt64 = Int64.ofInt (zb_top z) := by
  have hs : ((Int32.ofInt 59).toInt64.toUInt64 &&& Int64.toUInt64 63) = UInt64.ofNat 59 := by decide
  rw [hs]
  have hb := zb_top_b z
  obtain ⟨m, hm⟩ : ∃ m : Nat, zb_top z = (m : Int) := ⟨(zb_top z).toNat, by omega⟩
  rw [hm]
  have hx : (Int64.ofInt z).toUInt64.toNat = (z % 18446744073709551616).toNat := by
    show (BitVec.ofInt 64 z).toNat = _
    rw [BitVec.toNat_ofInt]
    rfl
  apply Int64.toBitVec_inj.1
  show ((Int64.ofInt z).toUInt64 >>> UInt64.ofNat 59).toBitVec = BitVec.ofInt 64 (m : Int)
  rw [BitVec.ofInt_natCast]
  apply BitVec.eq_of_toNat_eq
  show ((Int64.ofInt z).toUInt64 >>> UInt64.ofNat 59).toNat = _
  rw [UInt64.toNat_shiftRight, hx, show (UInt64.ofNat 59).toNat % 64 = 59 by decide, Nat.shiftRight_eq_div_pow, BitVec.toNat_ofNat, Nat.mod_eq_of_lt (show m < 2 ^ 64 by omega)]
  unfold zb_top at hm
  have h1 := Int.emod_nonneg z (show (18446744073709551616 : Int) ≠ 0 by decide)
  generalize z % 18446744073709551616 = y at h1 hm ⊢
  omega
end
section
/-! posts, and calls by their number of arguments (written by wip/gen/calls.py) -/
def zq_p (K : zg_K) (N : Nat) (P : zg_P) (V : zg_V) (v : Option Value) : zg_Q := fun r K' N' P' V' => r = v ∧ K' = K ∧ N' = N ∧ P' = P ∧ V' = V
def zq_r (K : zg_K) (N : Nat) (P : zg_P) (φ : Option Value → zg_V → Prop) : zg_Q := fun r K' N' P' V' => K' = K ∧ N' = N ∧ P' = P ∧ φ r V'
def zq_s (K : zg_K) (N : Nat) (φ : Option Value → zg_P → zg_V → Prop) : zg_Q := fun r K' N' P' V' => K' = K ∧ N' = N ∧ φ r P' V'
def zg_b (b : Bool) : Int := bif b then 1 else 0
theorem zg_b01 (b : Bool) : zg_b b = 0 ∨ zg_b b = 1 := by cases b <;> simp [zg_b]
theorem zg_b_r (b : Bool) : -2147483648 ≤ zg_b b ∧ zg_b b < 2147483648 := by cases b <;> simp [zg_b]
theorem zg_b_eq {b : Bool} {z : Int} (h : (b = true ∧ z = 1) ∨ (b = false ∧ z = 0)) : zg_b b = z := by rcases h with ⟨rfl, rfl⟩ | ⟨rfl, rfl⟩ <;> rfl
section ZC
variable {Γ : zg_C} {Ξ : State → Prop} {μ : zg_M} {R : Room} {Ω : List Frame → Array Value → State → State → Prop} {bc bs pc N : Nat} {ls : List (Option Value)} {st : List Value} {K : zg_K} {P : zg_P} {V : zg_V}
theorem zg_if_eqB {b : Bool} {off : Int} {tgt : Nat} (hd : decode μ.2.1 pc = .ok (.ifCond .eq off, 3)) (ht : (pc : Int) + off = (tgt : Int)) (kt : b = false → zg_G Γ Ξ μ R Ω bc bs tgt ls st K N P V) (kf : b = true → zg_G Γ Ξ μ R Ω bc bs (pc + 3) ls st K N P V) : zg_G Γ Ξ μ R Ω bc bs pc ls (zg_i (zg_b b) :: st) K N P V :=
  zg_if_eq hd ht (zg_b_r b) (fun h => kt (by cases b with | false => rfl | true => cases h)) (fun h => kf (by cases b with | false => exact absurd rfl h | true => rfl))
theorem zg_if_neB {b : Bool} {off : Int} {tgt : Nat} (hd : decode μ.2.1 pc = .ok (.ifCond .ne off, 3)) (ht : (pc : Int) + off = (tgt : Int)) (kt : b = true → zg_G Γ Ξ μ R Ω bc bs tgt ls st K N P V) (kf : b = false → zg_G Γ Ξ μ R Ω bc bs (pc + 3) ls st K N P V) : zg_G Γ Ξ μ R Ω bc bs pc ls (zg_i (zg_b b) :: st) K N P V :=
  zg_if_ne hd ht (zg_b_r b) (fun h => kt (by cases b with | false => exact absurd rfl h | true => rfl)) (fun h => kf (by cases b with | false => rfl | true => cases h))
theorem zg_cVp0 {v : Value} {P' : zg_P} {V' : zg_V} {μ' : zg_M} {ix d' a ci : Nat} (hd : decode μ.2.1 pc = .ok (.invokevirtual ix, 3)) (hm : zn_M μ' 0) (hl : Cond.methodLink μ.1.cls ix μ'.1 ∈ zn_TS) (hi : Cond.instanceMethod μ'.1 ∈ zn_TS) (hs : Cond.selects μ'.1.cls μ'.1 μ'.1 ∈ zn_TS) (hS : zg_S Γ μ' d' 0 0 [zg_r Γ a] K N P V (zq_p K N P' V' (some v))) (hfr : d' + 1 ≤ R.frames) (hlo : 34 + 36 * d' ≤ R.locals) (ha : a < N) (hk : K a = (0, ci)) (hci : ci < zn_nc) (hC : zn_C ci = μ'.1.cls) (hw : (st.map fun v => v.category).sum ≤ 8)
    (k : zg_G Γ Ξ μ R Ω bc bs (pc + 3) ls (v :: st) K N P' V') : zg_G Γ Ξ μ R Ω bc bs pc ls (zg_r Γ a :: st) K N P V :=
  zg_invV (As := []) hd hm hl hi hs hS hfr hlo (Nat.zero_le _) (Nat.zero_le _) rfl ha hk hci hC hw rfl (fun r K1 N1 P1 V1 hq => by obtain ⟨rfl, rfl, rfl, rfl, rfl⟩ := hq; exact k)
theorem zg_cVq0 {P' : zg_P} {V' : zg_V} {μ' : zg_M} {ix d' a ci : Nat} (hd : decode μ.2.1 pc = .ok (.invokevirtual ix, 3)) (hm : zn_M μ' 0) (hl : Cond.methodLink μ.1.cls ix μ'.1 ∈ zn_TS) (hi : Cond.instanceMethod μ'.1 ∈ zn_TS) (hs : Cond.selects μ'.1.cls μ'.1 μ'.1 ∈ zn_TS) (hS : zg_S Γ μ' d' 0 0 [zg_r Γ a] K N P V (zq_p K N P' V' none)) (hfr : d' + 1 ≤ R.frames) (hlo : 34 + 36 * d' ≤ R.locals) (ha : a < N) (hk : K a = (0, ci)) (hci : ci < zn_nc) (hC : zn_C ci = μ'.1.cls) (hw : (st.map fun v => v.category).sum ≤ 8)
    (k : zg_G Γ Ξ μ R Ω bc bs (pc + 3) ls st K N P' V') : zg_G Γ Ξ μ R Ω bc bs pc ls (zg_r Γ a :: st) K N P V :=
  zg_invV (As := []) hd hm hl hi hs hS hfr hlo (Nat.zero_le _) (Nat.zero_le _) rfl ha hk hci hC hw rfl (fun r K1 N1 P1 V1 hq => by obtain ⟨rfl, rfl, rfl, rfl, rfl⟩ := hq; exact k)
theorem zg_cVr0 {φ : Option Value → zg_V → Prop} {μ' : zg_M} {ix d' a ci : Nat} (hd : decode μ.2.1 pc = .ok (.invokevirtual ix, 3)) (hm : zn_M μ' 0) (hl : Cond.methodLink μ.1.cls ix μ'.1 ∈ zn_TS) (hi : Cond.instanceMethod μ'.1 ∈ zn_TS) (hs : Cond.selects μ'.1.cls μ'.1 μ'.1 ∈ zn_TS) (hS : zg_S Γ μ' d' 0 0 [zg_r Γ a] K N P V (zq_r K N P φ)) (hfr : d' + 1 ≤ R.frames) (hlo : 34 + 36 * d' ≤ R.locals) (ha : a < N) (hk : K a = (0, ci)) (hci : ci < zn_nc) (hC : zn_C ci = μ'.1.cls) (hw : (st.map fun v => v.category).sum ≤ 8)
    (k : ∀ (r : Option Value) (V' : zg_V), φ r V' → zg_G Γ Ξ μ R Ω bc bs (pc + 3) ls (r.toList ++ st) K N P V') : zg_G Γ Ξ μ R Ω bc bs pc ls (zg_r Γ a :: st) K N P V :=
  zg_invV (As := []) hd hm hl hi hs hS hfr hlo (Nat.zero_le _) (Nat.zero_le _) rfl ha hk hci hC hw rfl (fun r K' N' P' V' hq => by obtain ⟨rfl, rfl, rfl, h⟩ := hq; exact k r V' h)
theorem zg_cVs0 {φ : Option Value → zg_P → zg_V → Prop} {μ' : zg_M} {ix d' a ci : Nat} (hd : decode μ.2.1 pc = .ok (.invokevirtual ix, 3)) (hm : zn_M μ' 0) (hl : Cond.methodLink μ.1.cls ix μ'.1 ∈ zn_TS) (hi : Cond.instanceMethod μ'.1 ∈ zn_TS) (hs : Cond.selects μ'.1.cls μ'.1 μ'.1 ∈ zn_TS) (hS : zg_S Γ μ' d' 0 0 [zg_r Γ a] K N P V (zq_s K N φ)) (hfr : d' + 1 ≤ R.frames) (hlo : 34 + 36 * d' ≤ R.locals) (ha : a < N) (hk : K a = (0, ci)) (hci : ci < zn_nc) (hC : zn_C ci = μ'.1.cls) (hw : (st.map fun v => v.category).sum ≤ 8)
    (k : ∀ (r : Option Value) (P' : zg_P) (V' : zg_V), φ r P' V' → zg_G Γ Ξ μ R Ω bc bs (pc + 3) ls (r.toList ++ st) K N P' V') : zg_G Γ Ξ μ R Ω bc bs pc ls (zg_r Γ a :: st) K N P V :=
  zg_invV (As := []) hd hm hl hi hs hS hfr hlo (Nat.zero_le _) (Nat.zero_le _) rfl ha hk hci hC hw rfl (fun r K' N' P' V' hq => by obtain ⟨rfl, rfl, h⟩ := hq; exact k r P' V' h)
theorem zg_cVp1 {v : Value} {P' : zg_P} {V' : zg_V} {μ' : zg_M} {ix d' a ci : Nat} {x1 : Value} (hd : decode μ.2.1 pc = .ok (.invokevirtual ix, 3)) (hm : zn_M μ' 1) (hl : Cond.methodLink μ.1.cls ix μ'.1 ∈ zn_TS) (hi : Cond.instanceMethod μ'.1 ∈ zn_TS) (hs : Cond.selects μ'.1.cls μ'.1 μ'.1 ∈ zn_TS) (hS : zg_S Γ μ' d' 0 0 [zg_r Γ a, x1] K N P V (zq_p K N P' V' (some v))) (hfr : d' + 1 ≤ R.frames) (hlo : 34 + 36 * d' ≤ R.locals) (ha : a < N) (hk : K a = (0, ci)) (hci : ci < zn_nc) (hC : zn_C ci = μ'.1.cls) (hw : (st.map fun v => v.category).sum ≤ 8)
    (k : zg_G Γ Ξ μ R Ω bc bs (pc + 3) ls (v :: st) K N P' V') : zg_G Γ Ξ μ R Ω bc bs pc ls (x1 :: zg_r Γ a :: st) K N P V :=
  zg_invV (As := [x1]) hd hm hl hi hs hS hfr hlo (Nat.zero_le _) (Nat.zero_le _) rfl ha hk hci hC hw rfl (fun r K1 N1 P1 V1 hq => by obtain ⟨rfl, rfl, rfl, rfl, rfl⟩ := hq; exact k)
theorem zg_cVq1 {P' : zg_P} {V' : zg_V} {μ' : zg_M} {ix d' a ci : Nat} {x1 : Value} (hd : decode μ.2.1 pc = .ok (.invokevirtual ix, 3)) (hm : zn_M μ' 1) (hl : Cond.methodLink μ.1.cls ix μ'.1 ∈ zn_TS) (hi : Cond.instanceMethod μ'.1 ∈ zn_TS) (hs : Cond.selects μ'.1.cls μ'.1 μ'.1 ∈ zn_TS) (hS : zg_S Γ μ' d' 0 0 [zg_r Γ a, x1] K N P V (zq_p K N P' V' none)) (hfr : d' + 1 ≤ R.frames) (hlo : 34 + 36 * d' ≤ R.locals) (ha : a < N) (hk : K a = (0, ci)) (hci : ci < zn_nc) (hC : zn_C ci = μ'.1.cls) (hw : (st.map fun v => v.category).sum ≤ 8)
    (k : zg_G Γ Ξ μ R Ω bc bs (pc + 3) ls st K N P' V') : zg_G Γ Ξ μ R Ω bc bs pc ls (x1 :: zg_r Γ a :: st) K N P V :=
  zg_invV (As := [x1]) hd hm hl hi hs hS hfr hlo (Nat.zero_le _) (Nat.zero_le _) rfl ha hk hci hC hw rfl (fun r K1 N1 P1 V1 hq => by obtain ⟨rfl, rfl, rfl, rfl, rfl⟩ := hq; exact k)
theorem zg_cVr1 {φ : Option Value → zg_V → Prop} {μ' : zg_M} {ix d' a ci : Nat} {x1 : Value} (hd : decode μ.2.1 pc = .ok (.invokevirtual ix, 3)) (hm : zn_M μ' 1) (hl : Cond.methodLink μ.1.cls ix μ'.1 ∈ zn_TS) (hi : Cond.instanceMethod μ'.1 ∈ zn_TS) (hs : Cond.selects μ'.1.cls μ'.1 μ'.1 ∈ zn_TS) (hS : zg_S Γ μ' d' 0 0 [zg_r Γ a, x1] K N P V (zq_r K N P φ)) (hfr : d' + 1 ≤ R.frames) (hlo : 34 + 36 * d' ≤ R.locals) (ha : a < N) (hk : K a = (0, ci)) (hci : ci < zn_nc) (hC : zn_C ci = μ'.1.cls) (hw : (st.map fun v => v.category).sum ≤ 8)
    (k : ∀ (r : Option Value) (V' : zg_V), φ r V' → zg_G Γ Ξ μ R Ω bc bs (pc + 3) ls (r.toList ++ st) K N P V') : zg_G Γ Ξ μ R Ω bc bs pc ls (x1 :: zg_r Γ a :: st) K N P V :=
  zg_invV (As := [x1]) hd hm hl hi hs hS hfr hlo (Nat.zero_le _) (Nat.zero_le _) rfl ha hk hci hC hw rfl (fun r K' N' P' V' hq => by obtain ⟨rfl, rfl, rfl, h⟩ := hq; exact k r V' h)
theorem zg_cVs1 {φ : Option Value → zg_P → zg_V → Prop} {μ' : zg_M} {ix d' a ci : Nat} {x1 : Value} (hd : decode μ.2.1 pc = .ok (.invokevirtual ix, 3)) (hm : zn_M μ' 1) (hl : Cond.methodLink μ.1.cls ix μ'.1 ∈ zn_TS) (hi : Cond.instanceMethod μ'.1 ∈ zn_TS) (hs : Cond.selects μ'.1.cls μ'.1 μ'.1 ∈ zn_TS) (hS : zg_S Γ μ' d' 0 0 [zg_r Γ a, x1] K N P V (zq_s K N φ)) (hfr : d' + 1 ≤ R.frames) (hlo : 34 + 36 * d' ≤ R.locals) (ha : a < N) (hk : K a = (0, ci)) (hci : ci < zn_nc) (hC : zn_C ci = μ'.1.cls) (hw : (st.map fun v => v.category).sum ≤ 8)
    (k : ∀ (r : Option Value) (P' : zg_P) (V' : zg_V), φ r P' V' → zg_G Γ Ξ μ R Ω bc bs (pc + 3) ls (r.toList ++ st) K N P' V') : zg_G Γ Ξ μ R Ω bc bs pc ls (x1 :: zg_r Γ a :: st) K N P V :=
  zg_invV (As := [x1]) hd hm hl hi hs hS hfr hlo (Nat.zero_le _) (Nat.zero_le _) rfl ha hk hci hC hw rfl (fun r K' N' P' V' hq => by obtain ⟨rfl, rfl, h⟩ := hq; exact k r P' V' h)
theorem zg_cVp2 {v : Value} {P' : zg_P} {V' : zg_V} {μ' : zg_M} {ix d' a ci : Nat} {x1 x2 : Value} (hd : decode μ.2.1 pc = .ok (.invokevirtual ix, 3)) (hm : zn_M μ' 2) (hl : Cond.methodLink μ.1.cls ix μ'.1 ∈ zn_TS) (hi : Cond.instanceMethod μ'.1 ∈ zn_TS) (hs : Cond.selects μ'.1.cls μ'.1 μ'.1 ∈ zn_TS) (hS : zg_S Γ μ' d' 0 0 [zg_r Γ a, x1, x2] K N P V (zq_p K N P' V' (some v))) (hfr : d' + 1 ≤ R.frames) (hlo : 34 + 36 * d' ≤ R.locals) (ha : a < N) (hk : K a = (0, ci)) (hci : ci < zn_nc) (hC : zn_C ci = μ'.1.cls) (hw : (st.map fun v => v.category).sum ≤ 8)
    (k : zg_G Γ Ξ μ R Ω bc bs (pc + 3) ls (v :: st) K N P' V') : zg_G Γ Ξ μ R Ω bc bs pc ls (x2 :: x1 :: zg_r Γ a :: st) K N P V :=
  zg_invV (As := [x1, x2]) hd hm hl hi hs hS hfr hlo (Nat.zero_le _) (Nat.zero_le _) rfl ha hk hci hC hw rfl (fun r K1 N1 P1 V1 hq => by obtain ⟨rfl, rfl, rfl, rfl, rfl⟩ := hq; exact k)
theorem zg_cVq2 {P' : zg_P} {V' : zg_V} {μ' : zg_M} {ix d' a ci : Nat} {x1 x2 : Value} (hd : decode μ.2.1 pc = .ok (.invokevirtual ix, 3)) (hm : zn_M μ' 2) (hl : Cond.methodLink μ.1.cls ix μ'.1 ∈ zn_TS) (hi : Cond.instanceMethod μ'.1 ∈ zn_TS) (hs : Cond.selects μ'.1.cls μ'.1 μ'.1 ∈ zn_TS) (hS : zg_S Γ μ' d' 0 0 [zg_r Γ a, x1, x2] K N P V (zq_p K N P' V' none)) (hfr : d' + 1 ≤ R.frames) (hlo : 34 + 36 * d' ≤ R.locals) (ha : a < N) (hk : K a = (0, ci)) (hci : ci < zn_nc) (hC : zn_C ci = μ'.1.cls) (hw : (st.map fun v => v.category).sum ≤ 8)
    (k : zg_G Γ Ξ μ R Ω bc bs (pc + 3) ls st K N P' V') : zg_G Γ Ξ μ R Ω bc bs pc ls (x2 :: x1 :: zg_r Γ a :: st) K N P V :=
  zg_invV (As := [x1, x2]) hd hm hl hi hs hS hfr hlo (Nat.zero_le _) (Nat.zero_le _) rfl ha hk hci hC hw rfl (fun r K1 N1 P1 V1 hq => by obtain ⟨rfl, rfl, rfl, rfl, rfl⟩ := hq; exact k)
theorem zg_cVr2 {φ : Option Value → zg_V → Prop} {μ' : zg_M} {ix d' a ci : Nat} {x1 x2 : Value} (hd : decode μ.2.1 pc = .ok (.invokevirtual ix, 3)) (hm : zn_M μ' 2) (hl : Cond.methodLink μ.1.cls ix μ'.1 ∈ zn_TS) (hi : Cond.instanceMethod μ'.1 ∈ zn_TS) (hs : Cond.selects μ'.1.cls μ'.1 μ'.1 ∈ zn_TS) (hS : zg_S Γ μ' d' 0 0 [zg_r Γ a, x1, x2] K N P V (zq_r K N P φ)) (hfr : d' + 1 ≤ R.frames) (hlo : 34 + 36 * d' ≤ R.locals) (ha : a < N) (hk : K a = (0, ci)) (hci : ci < zn_nc) (hC : zn_C ci = μ'.1.cls) (hw : (st.map fun v => v.category).sum ≤ 8)
    (k : ∀ (r : Option Value) (V' : zg_V), φ r V' → zg_G Γ Ξ μ R Ω bc bs (pc + 3) ls (r.toList ++ st) K N P V') : zg_G Γ Ξ μ R Ω bc bs pc ls (x2 :: x1 :: zg_r Γ a :: st) K N P V :=
  zg_invV (As := [x1, x2]) hd hm hl hi hs hS hfr hlo (Nat.zero_le _) (Nat.zero_le _) rfl ha hk hci hC hw rfl (fun r K' N' P' V' hq => by obtain ⟨rfl, rfl, rfl, h⟩ := hq; exact k r V' h)
theorem zg_cVs2 {φ : Option Value → zg_P → zg_V → Prop} {μ' : zg_M} {ix d' a ci : Nat} {x1 x2 : Value} (hd : decode μ.2.1 pc = .ok (.invokevirtual ix, 3)) (hm : zn_M μ' 2) (hl : Cond.methodLink μ.1.cls ix μ'.1 ∈ zn_TS) (hi : Cond.instanceMethod μ'.1 ∈ zn_TS) (hs : Cond.selects μ'.1.cls μ'.1 μ'.1 ∈ zn_TS) (hS : zg_S Γ μ' d' 0 0 [zg_r Γ a, x1, x2] K N P V (zq_s K N φ)) (hfr : d' + 1 ≤ R.frames) (hlo : 34 + 36 * d' ≤ R.locals) (ha : a < N) (hk : K a = (0, ci)) (hci : ci < zn_nc) (hC : zn_C ci = μ'.1.cls) (hw : (st.map fun v => v.category).sum ≤ 8)
    (k : ∀ (r : Option Value) (P' : zg_P) (V' : zg_V), φ r P' V' → zg_G Γ Ξ μ R Ω bc bs (pc + 3) ls (r.toList ++ st) K N P' V') : zg_G Γ Ξ μ R Ω bc bs pc ls (x2 :: x1 :: zg_r Γ a :: st) K N P V :=
  zg_invV (As := [x1, x2]) hd hm hl hi hs hS hfr hlo (Nat.zero_le _) (Nat.zero_le _) rfl ha hk hci hC hw rfl (fun r K' N' P' V' hq => by obtain ⟨rfl, rfl, h⟩ := hq; exact k r P' V' h)
theorem zg_cVp3 {v : Value} {P' : zg_P} {V' : zg_V} {μ' : zg_M} {ix d' a ci : Nat} {x1 x2 x3 : Value} (hd : decode μ.2.1 pc = .ok (.invokevirtual ix, 3)) (hm : zn_M μ' 3) (hl : Cond.methodLink μ.1.cls ix μ'.1 ∈ zn_TS) (hi : Cond.instanceMethod μ'.1 ∈ zn_TS) (hs : Cond.selects μ'.1.cls μ'.1 μ'.1 ∈ zn_TS) (hS : zg_S Γ μ' d' 0 0 [zg_r Γ a, x1, x2, x3] K N P V (zq_p K N P' V' (some v))) (hfr : d' + 1 ≤ R.frames) (hlo : 34 + 36 * d' ≤ R.locals) (ha : a < N) (hk : K a = (0, ci)) (hci : ci < zn_nc) (hC : zn_C ci = μ'.1.cls) (hw : (st.map fun v => v.category).sum ≤ 8)
    (k : zg_G Γ Ξ μ R Ω bc bs (pc + 3) ls (v :: st) K N P' V') : zg_G Γ Ξ μ R Ω bc bs pc ls (x3 :: x2 :: x1 :: zg_r Γ a :: st) K N P V :=
  zg_invV (As := [x1, x2, x3]) hd hm hl hi hs hS hfr hlo (Nat.zero_le _) (Nat.zero_le _) rfl ha hk hci hC hw rfl (fun r K1 N1 P1 V1 hq => by obtain ⟨rfl, rfl, rfl, rfl, rfl⟩ := hq; exact k)
theorem zg_cVq3 {P' : zg_P} {V' : zg_V} {μ' : zg_M} {ix d' a ci : Nat} {x1 x2 x3 : Value} (hd : decode μ.2.1 pc = .ok (.invokevirtual ix, 3)) (hm : zn_M μ' 3) (hl : Cond.methodLink μ.1.cls ix μ'.1 ∈ zn_TS) (hi : Cond.instanceMethod μ'.1 ∈ zn_TS) (hs : Cond.selects μ'.1.cls μ'.1 μ'.1 ∈ zn_TS) (hS : zg_S Γ μ' d' 0 0 [zg_r Γ a, x1, x2, x3] K N P V (zq_p K N P' V' none)) (hfr : d' + 1 ≤ R.frames) (hlo : 34 + 36 * d' ≤ R.locals) (ha : a < N) (hk : K a = (0, ci)) (hci : ci < zn_nc) (hC : zn_C ci = μ'.1.cls) (hw : (st.map fun v => v.category).sum ≤ 8)
    (k : zg_G Γ Ξ μ R Ω bc bs (pc + 3) ls st K N P' V') : zg_G Γ Ξ μ R Ω bc bs pc ls (x3 :: x2 :: x1 :: zg_r Γ a :: st) K N P V :=
  zg_invV (As := [x1, x2, x3]) hd hm hl hi hs hS hfr hlo (Nat.zero_le _) (Nat.zero_le _) rfl ha hk hci hC hw rfl (fun r K1 N1 P1 V1 hq => by obtain ⟨rfl, rfl, rfl, rfl, rfl⟩ := hq; exact k)
theorem zg_cVr3 {φ : Option Value → zg_V → Prop} {μ' : zg_M} {ix d' a ci : Nat} {x1 x2 x3 : Value} (hd : decode μ.2.1 pc = .ok (.invokevirtual ix, 3)) (hm : zn_M μ' 3) (hl : Cond.methodLink μ.1.cls ix μ'.1 ∈ zn_TS) (hi : Cond.instanceMethod μ'.1 ∈ zn_TS) (hs : Cond.selects μ'.1.cls μ'.1 μ'.1 ∈ zn_TS) (hS : zg_S Γ μ' d' 0 0 [zg_r Γ a, x1, x2, x3] K N P V (zq_r K N P φ)) (hfr : d' + 1 ≤ R.frames) (hlo : 34 + 36 * d' ≤ R.locals) (ha : a < N) (hk : K a = (0, ci)) (hci : ci < zn_nc) (hC : zn_C ci = μ'.1.cls) (hw : (st.map fun v => v.category).sum ≤ 8)
    (k : ∀ (r : Option Value) (V' : zg_V), φ r V' → zg_G Γ Ξ μ R Ω bc bs (pc + 3) ls (r.toList ++ st) K N P V') : zg_G Γ Ξ μ R Ω bc bs pc ls (x3 :: x2 :: x1 :: zg_r Γ a :: st) K N P V :=
  zg_invV (As := [x1, x2, x3]) hd hm hl hi hs hS hfr hlo (Nat.zero_le _) (Nat.zero_le _) rfl ha hk hci hC hw rfl (fun r K' N' P' V' hq => by obtain ⟨rfl, rfl, rfl, h⟩ := hq; exact k r V' h)
theorem zg_cVs3 {φ : Option Value → zg_P → zg_V → Prop} {μ' : zg_M} {ix d' a ci : Nat} {x1 x2 x3 : Value} (hd : decode μ.2.1 pc = .ok (.invokevirtual ix, 3)) (hm : zn_M μ' 3) (hl : Cond.methodLink μ.1.cls ix μ'.1 ∈ zn_TS) (hi : Cond.instanceMethod μ'.1 ∈ zn_TS) (hs : Cond.selects μ'.1.cls μ'.1 μ'.1 ∈ zn_TS) (hS : zg_S Γ μ' d' 0 0 [zg_r Γ a, x1, x2, x3] K N P V (zq_s K N φ)) (hfr : d' + 1 ≤ R.frames) (hlo : 34 + 36 * d' ≤ R.locals) (ha : a < N) (hk : K a = (0, ci)) (hci : ci < zn_nc) (hC : zn_C ci = μ'.1.cls) (hw : (st.map fun v => v.category).sum ≤ 8)
    (k : ∀ (r : Option Value) (P' : zg_P) (V' : zg_V), φ r P' V' → zg_G Γ Ξ μ R Ω bc bs (pc + 3) ls (r.toList ++ st) K N P' V') : zg_G Γ Ξ μ R Ω bc bs pc ls (x3 :: x2 :: x1 :: zg_r Γ a :: st) K N P V :=
  zg_invV (As := [x1, x2, x3]) hd hm hl hi hs hS hfr hlo (Nat.zero_le _) (Nat.zero_le _) rfl ha hk hci hC hw rfl (fun r K' N' P' V' hq => by obtain ⟨rfl, rfl, h⟩ := hq; exact k r P' V' h)
theorem zg_cVp4 {v : Value} {P' : zg_P} {V' : zg_V} {μ' : zg_M} {ix d' a ci : Nat} {x1 x2 x3 x4 : Value} (hd : decode μ.2.1 pc = .ok (.invokevirtual ix, 3)) (hm : zn_M μ' 4) (hl : Cond.methodLink μ.1.cls ix μ'.1 ∈ zn_TS) (hi : Cond.instanceMethod μ'.1 ∈ zn_TS) (hs : Cond.selects μ'.1.cls μ'.1 μ'.1 ∈ zn_TS) (hS : zg_S Γ μ' d' 0 0 [zg_r Γ a, x1, x2, x3, x4] K N P V (zq_p K N P' V' (some v))) (hfr : d' + 1 ≤ R.frames) (hlo : 34 + 36 * d' ≤ R.locals) (ha : a < N) (hk : K a = (0, ci)) (hci : ci < zn_nc) (hC : zn_C ci = μ'.1.cls) (hw : (st.map fun v => v.category).sum ≤ 8)
    (k : zg_G Γ Ξ μ R Ω bc bs (pc + 3) ls (v :: st) K N P' V') : zg_G Γ Ξ μ R Ω bc bs pc ls (x4 :: x3 :: x2 :: x1 :: zg_r Γ a :: st) K N P V :=
  zg_invV (As := [x1, x2, x3, x4]) hd hm hl hi hs hS hfr hlo (Nat.zero_le _) (Nat.zero_le _) rfl ha hk hci hC hw rfl (fun r K1 N1 P1 V1 hq => by obtain ⟨rfl, rfl, rfl, rfl, rfl⟩ := hq; exact k)
theorem zg_cVq4 {P' : zg_P} {V' : zg_V} {μ' : zg_M} {ix d' a ci : Nat} {x1 x2 x3 x4 : Value} (hd : decode μ.2.1 pc = .ok (.invokevirtual ix, 3)) (hm : zn_M μ' 4) (hl : Cond.methodLink μ.1.cls ix μ'.1 ∈ zn_TS) (hi : Cond.instanceMethod μ'.1 ∈ zn_TS) (hs : Cond.selects μ'.1.cls μ'.1 μ'.1 ∈ zn_TS) (hS : zg_S Γ μ' d' 0 0 [zg_r Γ a, x1, x2, x3, x4] K N P V (zq_p K N P' V' none)) (hfr : d' + 1 ≤ R.frames) (hlo : 34 + 36 * d' ≤ R.locals) (ha : a < N) (hk : K a = (0, ci)) (hci : ci < zn_nc) (hC : zn_C ci = μ'.1.cls) (hw : (st.map fun v => v.category).sum ≤ 8)
    (k : zg_G Γ Ξ μ R Ω bc bs (pc + 3) ls st K N P' V') : zg_G Γ Ξ μ R Ω bc bs pc ls (x4 :: x3 :: x2 :: x1 :: zg_r Γ a :: st) K N P V :=
  zg_invV (As := [x1, x2, x3, x4]) hd hm hl hi hs hS hfr hlo (Nat.zero_le _) (Nat.zero_le _) rfl ha hk hci hC hw rfl (fun r K1 N1 P1 V1 hq => by obtain ⟨rfl, rfl, rfl, rfl, rfl⟩ := hq; exact k)
theorem zg_cVr4 {φ : Option Value → zg_V → Prop} {μ' : zg_M} {ix d' a ci : Nat} {x1 x2 x3 x4 : Value} (hd : decode μ.2.1 pc = .ok (.invokevirtual ix, 3)) (hm : zn_M μ' 4) (hl : Cond.methodLink μ.1.cls ix μ'.1 ∈ zn_TS) (hi : Cond.instanceMethod μ'.1 ∈ zn_TS) (hs : Cond.selects μ'.1.cls μ'.1 μ'.1 ∈ zn_TS) (hS : zg_S Γ μ' d' 0 0 [zg_r Γ a, x1, x2, x3, x4] K N P V (zq_r K N P φ)) (hfr : d' + 1 ≤ R.frames) (hlo : 34 + 36 * d' ≤ R.locals) (ha : a < N) (hk : K a = (0, ci)) (hci : ci < zn_nc) (hC : zn_C ci = μ'.1.cls) (hw : (st.map fun v => v.category).sum ≤ 8)
    (k : ∀ (r : Option Value) (V' : zg_V), φ r V' → zg_G Γ Ξ μ R Ω bc bs (pc + 3) ls (r.toList ++ st) K N P V') : zg_G Γ Ξ μ R Ω bc bs pc ls (x4 :: x3 :: x2 :: x1 :: zg_r Γ a :: st) K N P V :=
  zg_invV (As := [x1, x2, x3, x4]) hd hm hl hi hs hS hfr hlo (Nat.zero_le _) (Nat.zero_le _) rfl ha hk hci hC hw rfl (fun r K' N' P' V' hq => by obtain ⟨rfl, rfl, rfl, h⟩ := hq; exact k r V' h)
theorem zg_cVs4 {φ : Option Value → zg_P → zg_V → Prop} {μ' : zg_M} {ix d' a ci : Nat} {x1 x2 x3 x4 : Value} (hd : decode μ.2.1 pc = .ok (.invokevirtual ix, 3)) (hm : zn_M μ' 4) (hl : Cond.methodLink μ.1.cls ix μ'.1 ∈ zn_TS) (hi : Cond.instanceMethod μ'.1 ∈ zn_TS) (hs : Cond.selects μ'.1.cls μ'.1 μ'.1 ∈ zn_TS) (hS : zg_S Γ μ' d' 0 0 [zg_r Γ a, x1, x2, x3, x4] K N P V (zq_s K N φ)) (hfr : d' + 1 ≤ R.frames) (hlo : 34 + 36 * d' ≤ R.locals) (ha : a < N) (hk : K a = (0, ci)) (hci : ci < zn_nc) (hC : zn_C ci = μ'.1.cls) (hw : (st.map fun v => v.category).sum ≤ 8)
    (k : ∀ (r : Option Value) (P' : zg_P) (V' : zg_V), φ r P' V' → zg_G Γ Ξ μ R Ω bc bs (pc + 3) ls (r.toList ++ st) K N P' V') : zg_G Γ Ξ μ R Ω bc bs pc ls (x4 :: x3 :: x2 :: x1 :: zg_r Γ a :: st) K N P V :=
  zg_invV (As := [x1, x2, x3, x4]) hd hm hl hi hs hS hfr hlo (Nat.zero_le _) (Nat.zero_le _) rfl ha hk hci hC hw rfl (fun r K' N' P' V' hq => by obtain ⟨rfl, rfl, h⟩ := hq; exact k r P' V' h)
theorem zg_cVp5 {v : Value} {P' : zg_P} {V' : zg_V} {μ' : zg_M} {ix d' a ci : Nat} {x1 x2 x3 x4 x5 : Value} (hd : decode μ.2.1 pc = .ok (.invokevirtual ix, 3)) (hm : zn_M μ' 5) (hl : Cond.methodLink μ.1.cls ix μ'.1 ∈ zn_TS) (hi : Cond.instanceMethod μ'.1 ∈ zn_TS) (hs : Cond.selects μ'.1.cls μ'.1 μ'.1 ∈ zn_TS) (hS : zg_S Γ μ' d' 0 0 [zg_r Γ a, x1, x2, x3, x4, x5] K N P V (zq_p K N P' V' (some v))) (hfr : d' + 1 ≤ R.frames) (hlo : 34 + 36 * d' ≤ R.locals) (ha : a < N) (hk : K a = (0, ci)) (hci : ci < zn_nc) (hC : zn_C ci = μ'.1.cls) (hw : (st.map fun v => v.category).sum ≤ 8)
    (k : zg_G Γ Ξ μ R Ω bc bs (pc + 3) ls (v :: st) K N P' V') : zg_G Γ Ξ μ R Ω bc bs pc ls (x5 :: x4 :: x3 :: x2 :: x1 :: zg_r Γ a :: st) K N P V :=
  zg_invV (As := [x1, x2, x3, x4, x5]) hd hm hl hi hs hS hfr hlo (Nat.zero_le _) (Nat.zero_le _) rfl ha hk hci hC hw rfl (fun r K1 N1 P1 V1 hq => by obtain ⟨rfl, rfl, rfl, rfl, rfl⟩ := hq; exact k)
theorem zg_cVq5 {P' : zg_P} {V' : zg_V} {μ' : zg_M} {ix d' a ci : Nat} {x1 x2 x3 x4 x5 : Value} (hd : decode μ.2.1 pc = .ok (.invokevirtual ix, 3)) (hm : zn_M μ' 5) (hl : Cond.methodLink μ.1.cls ix μ'.1 ∈ zn_TS) (hi : Cond.instanceMethod μ'.1 ∈ zn_TS) (hs : Cond.selects μ'.1.cls μ'.1 μ'.1 ∈ zn_TS) (hS : zg_S Γ μ' d' 0 0 [zg_r Γ a, x1, x2, x3, x4, x5] K N P V (zq_p K N P' V' none)) (hfr : d' + 1 ≤ R.frames) (hlo : 34 + 36 * d' ≤ R.locals) (ha : a < N) (hk : K a = (0, ci)) (hci : ci < zn_nc) (hC : zn_C ci = μ'.1.cls) (hw : (st.map fun v => v.category).sum ≤ 8)
    (k : zg_G Γ Ξ μ R Ω bc bs (pc + 3) ls st K N P' V') : zg_G Γ Ξ μ R Ω bc bs pc ls (x5 :: x4 :: x3 :: x2 :: x1 :: zg_r Γ a :: st) K N P V :=
  zg_invV (As := [x1, x2, x3, x4, x5]) hd hm hl hi hs hS hfr hlo (Nat.zero_le _) (Nat.zero_le _) rfl ha hk hci hC hw rfl (fun r K1 N1 P1 V1 hq => by obtain ⟨rfl, rfl, rfl, rfl, rfl⟩ := hq; exact k)
theorem zg_cVr5 {φ : Option Value → zg_V → Prop} {μ' : zg_M} {ix d' a ci : Nat} {x1 x2 x3 x4 x5 : Value} (hd : decode μ.2.1 pc = .ok (.invokevirtual ix, 3)) (hm : zn_M μ' 5) (hl : Cond.methodLink μ.1.cls ix μ'.1 ∈ zn_TS) (hi : Cond.instanceMethod μ'.1 ∈ zn_TS) (hs : Cond.selects μ'.1.cls μ'.1 μ'.1 ∈ zn_TS) (hS : zg_S Γ μ' d' 0 0 [zg_r Γ a, x1, x2, x3, x4, x5] K N P V (zq_r K N P φ)) (hfr : d' + 1 ≤ R.frames) (hlo : 34 + 36 * d' ≤ R.locals) (ha : a < N) (hk : K a = (0, ci)) (hci : ci < zn_nc) (hC : zn_C ci = μ'.1.cls) (hw : (st.map fun v => v.category).sum ≤ 8)
    (k : ∀ (r : Option Value) (V' : zg_V), φ r V' → zg_G Γ Ξ μ R Ω bc bs (pc + 3) ls (r.toList ++ st) K N P V') : zg_G Γ Ξ μ R Ω bc bs pc ls (x5 :: x4 :: x3 :: x2 :: x1 :: zg_r Γ a :: st) K N P V :=
  zg_invV (As := [x1, x2, x3, x4, x5]) hd hm hl hi hs hS hfr hlo (Nat.zero_le _) (Nat.zero_le _) rfl ha hk hci hC hw rfl (fun r K' N' P' V' hq => by obtain ⟨rfl, rfl, rfl, h⟩ := hq; exact k r V' h)
theorem zg_cVs5 {φ : Option Value → zg_P → zg_V → Prop} {μ' : zg_M} {ix d' a ci : Nat} {x1 x2 x3 x4 x5 : Value} (hd : decode μ.2.1 pc = .ok (.invokevirtual ix, 3)) (hm : zn_M μ' 5) (hl : Cond.methodLink μ.1.cls ix μ'.1 ∈ zn_TS) (hi : Cond.instanceMethod μ'.1 ∈ zn_TS) (hs : Cond.selects μ'.1.cls μ'.1 μ'.1 ∈ zn_TS) (hS : zg_S Γ μ' d' 0 0 [zg_r Γ a, x1, x2, x3, x4, x5] K N P V (zq_s K N φ)) (hfr : d' + 1 ≤ R.frames) (hlo : 34 + 36 * d' ≤ R.locals) (ha : a < N) (hk : K a = (0, ci)) (hci : ci < zn_nc) (hC : zn_C ci = μ'.1.cls) (hw : (st.map fun v => v.category).sum ≤ 8)
    (k : ∀ (r : Option Value) (P' : zg_P) (V' : zg_V), φ r P' V' → zg_G Γ Ξ μ R Ω bc bs (pc + 3) ls (r.toList ++ st) K N P' V') : zg_G Γ Ξ μ R Ω bc bs pc ls (x5 :: x4 :: x3 :: x2 :: x1 :: zg_r Γ a :: st) K N P V :=
  zg_invV (As := [x1, x2, x3, x4, x5]) hd hm hl hi hs hS hfr hlo (Nat.zero_le _) (Nat.zero_le _) rfl ha hk hci hC hw rfl (fun r K' N' P' V' hq => by obtain ⟨rfl, rfl, h⟩ := hq; exact k r P' V' h)
theorem zg_cSp1 {v : Value} {P' : zg_P} {V' : zg_V} {μ' : zg_M} {ix d' : Nat} {x1 : Value} (hd : decode μ.2.1 pc = .ok (.invokestatic ix, 3)) (hm : zn_M μ' 1) (hl : Cond.methodLink μ.1.cls ix μ'.1 ∈ zn_TS) (hi : Cond.static μ'.1 ∈ zn_TS) (hS : zg_S Γ μ' d' 0 0 [x1] K N P V (zq_p K N P' V' (some v))) (hfr : d' + 1 ≤ R.frames) (hlo : 34 + 36 * d' ≤ R.locals) (hw : (st.map fun v => v.category).sum ≤ 8)
    (k : zg_G Γ Ξ μ R Ω bc bs (pc + 3) ls (v :: st) K N P' V') : zg_G Γ Ξ μ R Ω bc bs pc ls (x1 :: st) K N P V :=
  zg_invS (As := [x1]) hd hm hl hi hS hfr hlo (Nat.zero_le _) (Nat.zero_le _) rfl hw rfl (fun r K1 N1 P1 V1 hq => by obtain ⟨rfl, rfl, rfl, rfl, rfl⟩ := hq; exact k)
theorem zg_cSq1 {P' : zg_P} {V' : zg_V} {μ' : zg_M} {ix d' : Nat} {x1 : Value} (hd : decode μ.2.1 pc = .ok (.invokestatic ix, 3)) (hm : zn_M μ' 1) (hl : Cond.methodLink μ.1.cls ix μ'.1 ∈ zn_TS) (hi : Cond.static μ'.1 ∈ zn_TS) (hS : zg_S Γ μ' d' 0 0 [x1] K N P V (zq_p K N P' V' none)) (hfr : d' + 1 ≤ R.frames) (hlo : 34 + 36 * d' ≤ R.locals) (hw : (st.map fun v => v.category).sum ≤ 8)
    (k : zg_G Γ Ξ μ R Ω bc bs (pc + 3) ls st K N P' V') : zg_G Γ Ξ μ R Ω bc bs pc ls (x1 :: st) K N P V :=
  zg_invS (As := [x1]) hd hm hl hi hS hfr hlo (Nat.zero_le _) (Nat.zero_le _) rfl hw rfl (fun r K1 N1 P1 V1 hq => by obtain ⟨rfl, rfl, rfl, rfl, rfl⟩ := hq; exact k)
theorem zg_cSr1 {φ : Option Value → zg_V → Prop} {μ' : zg_M} {ix d' : Nat} {x1 : Value} (hd : decode μ.2.1 pc = .ok (.invokestatic ix, 3)) (hm : zn_M μ' 1) (hl : Cond.methodLink μ.1.cls ix μ'.1 ∈ zn_TS) (hi : Cond.static μ'.1 ∈ zn_TS) (hS : zg_S Γ μ' d' 0 0 [x1] K N P V (zq_r K N P φ)) (hfr : d' + 1 ≤ R.frames) (hlo : 34 + 36 * d' ≤ R.locals) (hw : (st.map fun v => v.category).sum ≤ 8)
    (k : ∀ (r : Option Value) (V' : zg_V), φ r V' → zg_G Γ Ξ μ R Ω bc bs (pc + 3) ls (r.toList ++ st) K N P V') : zg_G Γ Ξ μ R Ω bc bs pc ls (x1 :: st) K N P V :=
  zg_invS (As := [x1]) hd hm hl hi hS hfr hlo (Nat.zero_le _) (Nat.zero_le _) rfl hw rfl (fun r K' N' P' V' hq => by obtain ⟨rfl, rfl, rfl, h⟩ := hq; exact k r V' h)
theorem zg_cSs1 {φ : Option Value → zg_P → zg_V → Prop} {μ' : zg_M} {ix d' : Nat} {x1 : Value} (hd : decode μ.2.1 pc = .ok (.invokestatic ix, 3)) (hm : zn_M μ' 1) (hl : Cond.methodLink μ.1.cls ix μ'.1 ∈ zn_TS) (hi : Cond.static μ'.1 ∈ zn_TS) (hS : zg_S Γ μ' d' 0 0 [x1] K N P V (zq_s K N φ)) (hfr : d' + 1 ≤ R.frames) (hlo : 34 + 36 * d' ≤ R.locals) (hw : (st.map fun v => v.category).sum ≤ 8)
    (k : ∀ (r : Option Value) (P' : zg_P) (V' : zg_V), φ r P' V' → zg_G Γ Ξ μ R Ω bc bs (pc + 3) ls (r.toList ++ st) K N P' V') : zg_G Γ Ξ μ R Ω bc bs pc ls (x1 :: st) K N P V :=
  zg_invS (As := [x1]) hd hm hl hi hS hfr hlo (Nat.zero_le _) (Nat.zero_le _) rfl hw rfl (fun r K' N' P' V' hq => by obtain ⟨rfl, rfl, h⟩ := hq; exact k r P' V' h)
theorem zg_cSp2 {v : Value} {P' : zg_P} {V' : zg_V} {μ' : zg_M} {ix d' : Nat} {x1 x2 : Value} (hd : decode μ.2.1 pc = .ok (.invokestatic ix, 3)) (hm : zn_M μ' 2) (hl : Cond.methodLink μ.1.cls ix μ'.1 ∈ zn_TS) (hi : Cond.static μ'.1 ∈ zn_TS) (hS : zg_S Γ μ' d' 0 0 [x1, x2] K N P V (zq_p K N P' V' (some v))) (hfr : d' + 1 ≤ R.frames) (hlo : 34 + 36 * d' ≤ R.locals) (hw : (st.map fun v => v.category).sum ≤ 8)
    (k : zg_G Γ Ξ μ R Ω bc bs (pc + 3) ls (v :: st) K N P' V') : zg_G Γ Ξ μ R Ω bc bs pc ls (x2 :: x1 :: st) K N P V :=
  zg_invS (As := [x1, x2]) hd hm hl hi hS hfr hlo (Nat.zero_le _) (Nat.zero_le _) rfl hw rfl (fun r K1 N1 P1 V1 hq => by obtain ⟨rfl, rfl, rfl, rfl, rfl⟩ := hq; exact k)
theorem zg_cSq2 {P' : zg_P} {V' : zg_V} {μ' : zg_M} {ix d' : Nat} {x1 x2 : Value} (hd : decode μ.2.1 pc = .ok (.invokestatic ix, 3)) (hm : zn_M μ' 2) (hl : Cond.methodLink μ.1.cls ix μ'.1 ∈ zn_TS) (hi : Cond.static μ'.1 ∈ zn_TS) (hS : zg_S Γ μ' d' 0 0 [x1, x2] K N P V (zq_p K N P' V' none)) (hfr : d' + 1 ≤ R.frames) (hlo : 34 + 36 * d' ≤ R.locals) (hw : (st.map fun v => v.category).sum ≤ 8)
    (k : zg_G Γ Ξ μ R Ω bc bs (pc + 3) ls st K N P' V') : zg_G Γ Ξ μ R Ω bc bs pc ls (x2 :: x1 :: st) K N P V :=
  zg_invS (As := [x1, x2]) hd hm hl hi hS hfr hlo (Nat.zero_le _) (Nat.zero_le _) rfl hw rfl (fun r K1 N1 P1 V1 hq => by obtain ⟨rfl, rfl, rfl, rfl, rfl⟩ := hq; exact k)
theorem zg_cSr2 {φ : Option Value → zg_V → Prop} {μ' : zg_M} {ix d' : Nat} {x1 x2 : Value} (hd : decode μ.2.1 pc = .ok (.invokestatic ix, 3)) (hm : zn_M μ' 2) (hl : Cond.methodLink μ.1.cls ix μ'.1 ∈ zn_TS) (hi : Cond.static μ'.1 ∈ zn_TS) (hS : zg_S Γ μ' d' 0 0 [x1, x2] K N P V (zq_r K N P φ)) (hfr : d' + 1 ≤ R.frames) (hlo : 34 + 36 * d' ≤ R.locals) (hw : (st.map fun v => v.category).sum ≤ 8)
    (k : ∀ (r : Option Value) (V' : zg_V), φ r V' → zg_G Γ Ξ μ R Ω bc bs (pc + 3) ls (r.toList ++ st) K N P V') : zg_G Γ Ξ μ R Ω bc bs pc ls (x2 :: x1 :: st) K N P V :=
  zg_invS (As := [x1, x2]) hd hm hl hi hS hfr hlo (Nat.zero_le _) (Nat.zero_le _) rfl hw rfl (fun r K' N' P' V' hq => by obtain ⟨rfl, rfl, rfl, h⟩ := hq; exact k r V' h)
theorem zg_cSs2 {φ : Option Value → zg_P → zg_V → Prop} {μ' : zg_M} {ix d' : Nat} {x1 x2 : Value} (hd : decode μ.2.1 pc = .ok (.invokestatic ix, 3)) (hm : zn_M μ' 2) (hl : Cond.methodLink μ.1.cls ix μ'.1 ∈ zn_TS) (hi : Cond.static μ'.1 ∈ zn_TS) (hS : zg_S Γ μ' d' 0 0 [x1, x2] K N P V (zq_s K N φ)) (hfr : d' + 1 ≤ R.frames) (hlo : 34 + 36 * d' ≤ R.locals) (hw : (st.map fun v => v.category).sum ≤ 8)
    (k : ∀ (r : Option Value) (P' : zg_P) (V' : zg_V), φ r P' V' → zg_G Γ Ξ μ R Ω bc bs (pc + 3) ls (r.toList ++ st) K N P' V') : zg_G Γ Ξ μ R Ω bc bs pc ls (x2 :: x1 :: st) K N P V :=
  zg_invS (As := [x1, x2]) hd hm hl hi hS hfr hlo (Nat.zero_le _) (Nat.zero_le _) rfl hw rfl (fun r K' N' P' V' hq => by obtain ⟨rfl, rfl, h⟩ := hq; exact k r P' V' h)
theorem zg_cSp3 {v : Value} {P' : zg_P} {V' : zg_V} {μ' : zg_M} {ix d' : Nat} {x1 x2 x3 : Value} (hd : decode μ.2.1 pc = .ok (.invokestatic ix, 3)) (hm : zn_M μ' 3) (hl : Cond.methodLink μ.1.cls ix μ'.1 ∈ zn_TS) (hi : Cond.static μ'.1 ∈ zn_TS) (hS : zg_S Γ μ' d' 0 0 [x1, x2, x3] K N P V (zq_p K N P' V' (some v))) (hfr : d' + 1 ≤ R.frames) (hlo : 34 + 36 * d' ≤ R.locals) (hw : (st.map fun v => v.category).sum ≤ 8)
    (k : zg_G Γ Ξ μ R Ω bc bs (pc + 3) ls (v :: st) K N P' V') : zg_G Γ Ξ μ R Ω bc bs pc ls (x3 :: x2 :: x1 :: st) K N P V :=
  zg_invS (As := [x1, x2, x3]) hd hm hl hi hS hfr hlo (Nat.zero_le _) (Nat.zero_le _) rfl hw rfl (fun r K1 N1 P1 V1 hq => by obtain ⟨rfl, rfl, rfl, rfl, rfl⟩ := hq; exact k)
theorem zg_cSq3 {P' : zg_P} {V' : zg_V} {μ' : zg_M} {ix d' : Nat} {x1 x2 x3 : Value} (hd : decode μ.2.1 pc = .ok (.invokestatic ix, 3)) (hm : zn_M μ' 3) (hl : Cond.methodLink μ.1.cls ix μ'.1 ∈ zn_TS) (hi : Cond.static μ'.1 ∈ zn_TS) (hS : zg_S Γ μ' d' 0 0 [x1, x2, x3] K N P V (zq_p K N P' V' none)) (hfr : d' + 1 ≤ R.frames) (hlo : 34 + 36 * d' ≤ R.locals) (hw : (st.map fun v => v.category).sum ≤ 8)
    (k : zg_G Γ Ξ μ R Ω bc bs (pc + 3) ls st K N P' V') : zg_G Γ Ξ μ R Ω bc bs pc ls (x3 :: x2 :: x1 :: st) K N P V :=
  zg_invS (As := [x1, x2, x3]) hd hm hl hi hS hfr hlo (Nat.zero_le _) (Nat.zero_le _) rfl hw rfl (fun r K1 N1 P1 V1 hq => by obtain ⟨rfl, rfl, rfl, rfl, rfl⟩ := hq; exact k)
theorem zg_cSr3 {φ : Option Value → zg_V → Prop} {μ' : zg_M} {ix d' : Nat} {x1 x2 x3 : Value} (hd : decode μ.2.1 pc = .ok (.invokestatic ix, 3)) (hm : zn_M μ' 3) (hl : Cond.methodLink μ.1.cls ix μ'.1 ∈ zn_TS) (hi : Cond.static μ'.1 ∈ zn_TS) (hS : zg_S Γ μ' d' 0 0 [x1, x2, x3] K N P V (zq_r K N P φ)) (hfr : d' + 1 ≤ R.frames) (hlo : 34 + 36 * d' ≤ R.locals) (hw : (st.map fun v => v.category).sum ≤ 8)
    (k : ∀ (r : Option Value) (V' : zg_V), φ r V' → zg_G Γ Ξ μ R Ω bc bs (pc + 3) ls (r.toList ++ st) K N P V') : zg_G Γ Ξ μ R Ω bc bs pc ls (x3 :: x2 :: x1 :: st) K N P V :=
  zg_invS (As := [x1, x2, x3]) hd hm hl hi hS hfr hlo (Nat.zero_le _) (Nat.zero_le _) rfl hw rfl (fun r K' N' P' V' hq => by obtain ⟨rfl, rfl, rfl, h⟩ := hq; exact k r V' h)
theorem zg_cSs3 {φ : Option Value → zg_P → zg_V → Prop} {μ' : zg_M} {ix d' : Nat} {x1 x2 x3 : Value} (hd : decode μ.2.1 pc = .ok (.invokestatic ix, 3)) (hm : zn_M μ' 3) (hl : Cond.methodLink μ.1.cls ix μ'.1 ∈ zn_TS) (hi : Cond.static μ'.1 ∈ zn_TS) (hS : zg_S Γ μ' d' 0 0 [x1, x2, x3] K N P V (zq_s K N φ)) (hfr : d' + 1 ≤ R.frames) (hlo : 34 + 36 * d' ≤ R.locals) (hw : (st.map fun v => v.category).sum ≤ 8)
    (k : ∀ (r : Option Value) (P' : zg_P) (V' : zg_V), φ r P' V' → zg_G Γ Ξ μ R Ω bc bs (pc + 3) ls (r.toList ++ st) K N P' V') : zg_G Γ Ξ μ R Ω bc bs pc ls (x3 :: x2 :: x1 :: st) K N P V :=
  zg_invS (As := [x1, x2, x3]) hd hm hl hi hS hfr hlo (Nat.zero_le _) (Nat.zero_le _) rfl hw rfl (fun r K' N' P' V' hq => by obtain ⟨rfl, rfl, h⟩ := hq; exact k r P' V' h)
theorem zg_cSp4 {v : Value} {P' : zg_P} {V' : zg_V} {μ' : zg_M} {ix d' : Nat} {x1 x2 x3 x4 : Value} (hd : decode μ.2.1 pc = .ok (.invokestatic ix, 3)) (hm : zn_M μ' 4) (hl : Cond.methodLink μ.1.cls ix μ'.1 ∈ zn_TS) (hi : Cond.static μ'.1 ∈ zn_TS) (hS : zg_S Γ μ' d' 0 0 [x1, x2, x3, x4] K N P V (zq_p K N P' V' (some v))) (hfr : d' + 1 ≤ R.frames) (hlo : 34 + 36 * d' ≤ R.locals) (hw : (st.map fun v => v.category).sum ≤ 8)
    (k : zg_G Γ Ξ μ R Ω bc bs (pc + 3) ls (v :: st) K N P' V') : zg_G Γ Ξ μ R Ω bc bs pc ls (x4 :: x3 :: x2 :: x1 :: st) K N P V :=
  zg_invS (As := [x1, x2, x3, x4]) hd hm hl hi hS hfr hlo (Nat.zero_le _) (Nat.zero_le _) rfl hw rfl (fun r K1 N1 P1 V1 hq => by obtain ⟨rfl, rfl, rfl, rfl, rfl⟩ := hq; exact k)
theorem zg_cSq4 {P' : zg_P} {V' : zg_V} {μ' : zg_M} {ix d' : Nat} {x1 x2 x3 x4 : Value} (hd : decode μ.2.1 pc = .ok (.invokestatic ix, 3)) (hm : zn_M μ' 4) (hl : Cond.methodLink μ.1.cls ix μ'.1 ∈ zn_TS) (hi : Cond.static μ'.1 ∈ zn_TS) (hS : zg_S Γ μ' d' 0 0 [x1, x2, x3, x4] K N P V (zq_p K N P' V' none)) (hfr : d' + 1 ≤ R.frames) (hlo : 34 + 36 * d' ≤ R.locals) (hw : (st.map fun v => v.category).sum ≤ 8)
    (k : zg_G Γ Ξ μ R Ω bc bs (pc + 3) ls st K N P' V') : zg_G Γ Ξ μ R Ω bc bs pc ls (x4 :: x3 :: x2 :: x1 :: st) K N P V :=
  zg_invS (As := [x1, x2, x3, x4]) hd hm hl hi hS hfr hlo (Nat.zero_le _) (Nat.zero_le _) rfl hw rfl (fun r K1 N1 P1 V1 hq => by obtain ⟨rfl, rfl, rfl, rfl, rfl⟩ := hq; exact k)
theorem zg_cSr4 {φ : Option Value → zg_V → Prop} {μ' : zg_M} {ix d' : Nat} {x1 x2 x3 x4 : Value} (hd : decode μ.2.1 pc = .ok (.invokestatic ix, 3)) (hm : zn_M μ' 4) (hl : Cond.methodLink μ.1.cls ix μ'.1 ∈ zn_TS) (hi : Cond.static μ'.1 ∈ zn_TS) (hS : zg_S Γ μ' d' 0 0 [x1, x2, x3, x4] K N P V (zq_r K N P φ)) (hfr : d' + 1 ≤ R.frames) (hlo : 34 + 36 * d' ≤ R.locals) (hw : (st.map fun v => v.category).sum ≤ 8)
    (k : ∀ (r : Option Value) (V' : zg_V), φ r V' → zg_G Γ Ξ μ R Ω bc bs (pc + 3) ls (r.toList ++ st) K N P V') : zg_G Γ Ξ μ R Ω bc bs pc ls (x4 :: x3 :: x2 :: x1 :: st) K N P V :=
  zg_invS (As := [x1, x2, x3, x4]) hd hm hl hi hS hfr hlo (Nat.zero_le _) (Nat.zero_le _) rfl hw rfl (fun r K' N' P' V' hq => by obtain ⟨rfl, rfl, rfl, h⟩ := hq; exact k r V' h)
theorem zg_cSs4 {φ : Option Value → zg_P → zg_V → Prop} {μ' : zg_M} {ix d' : Nat} {x1 x2 x3 x4 : Value} (hd : decode μ.2.1 pc = .ok (.invokestatic ix, 3)) (hm : zn_M μ' 4) (hl : Cond.methodLink μ.1.cls ix μ'.1 ∈ zn_TS) (hi : Cond.static μ'.1 ∈ zn_TS) (hS : zg_S Γ μ' d' 0 0 [x1, x2, x3, x4] K N P V (zq_s K N φ)) (hfr : d' + 1 ≤ R.frames) (hlo : 34 + 36 * d' ≤ R.locals) (hw : (st.map fun v => v.category).sum ≤ 8)
    (k : ∀ (r : Option Value) (P' : zg_P) (V' : zg_V), φ r P' V' → zg_G Γ Ξ μ R Ω bc bs (pc + 3) ls (r.toList ++ st) K N P' V') : zg_G Γ Ξ μ R Ω bc bs pc ls (x4 :: x3 :: x2 :: x1 :: st) K N P V :=
  zg_invS (As := [x1, x2, x3, x4]) hd hm hl hi hS hfr hlo (Nat.zero_le _) (Nat.zero_le _) rfl hw rfl (fun r K' N' P' V' hq => by obtain ⟨rfl, rfl, h⟩ := hq; exact k r P' V' h)
theorem zg_cSp5 {v : Value} {P' : zg_P} {V' : zg_V} {μ' : zg_M} {ix d' : Nat} {x1 x2 x3 x4 x5 : Value} (hd : decode μ.2.1 pc = .ok (.invokestatic ix, 3)) (hm : zn_M μ' 5) (hl : Cond.methodLink μ.1.cls ix μ'.1 ∈ zn_TS) (hi : Cond.static μ'.1 ∈ zn_TS) (hS : zg_S Γ μ' d' 0 0 [x1, x2, x3, x4, x5] K N P V (zq_p K N P' V' (some v))) (hfr : d' + 1 ≤ R.frames) (hlo : 34 + 36 * d' ≤ R.locals) (hw : (st.map fun v => v.category).sum ≤ 8)
    (k : zg_G Γ Ξ μ R Ω bc bs (pc + 3) ls (v :: st) K N P' V') : zg_G Γ Ξ μ R Ω bc bs pc ls (x5 :: x4 :: x3 :: x2 :: x1 :: st) K N P V :=
  zg_invS (As := [x1, x2, x3, x4, x5]) hd hm hl hi hS hfr hlo (Nat.zero_le _) (Nat.zero_le _) rfl hw rfl (fun r K1 N1 P1 V1 hq => by obtain ⟨rfl, rfl, rfl, rfl, rfl⟩ := hq; exact k)
theorem zg_cSq5 {P' : zg_P} {V' : zg_V} {μ' : zg_M} {ix d' : Nat} {x1 x2 x3 x4 x5 : Value} (hd : decode μ.2.1 pc = .ok (.invokestatic ix, 3)) (hm : zn_M μ' 5) (hl : Cond.methodLink μ.1.cls ix μ'.1 ∈ zn_TS) (hi : Cond.static μ'.1 ∈ zn_TS) (hS : zg_S Γ μ' d' 0 0 [x1, x2, x3, x4, x5] K N P V (zq_p K N P' V' none)) (hfr : d' + 1 ≤ R.frames) (hlo : 34 + 36 * d' ≤ R.locals) (hw : (st.map fun v => v.category).sum ≤ 8)
    (k : zg_G Γ Ξ μ R Ω bc bs (pc + 3) ls st K N P' V') : zg_G Γ Ξ μ R Ω bc bs pc ls (x5 :: x4 :: x3 :: x2 :: x1 :: st) K N P V :=
  zg_invS (As := [x1, x2, x3, x4, x5]) hd hm hl hi hS hfr hlo (Nat.zero_le _) (Nat.zero_le _) rfl hw rfl (fun r K1 N1 P1 V1 hq => by obtain ⟨rfl, rfl, rfl, rfl, rfl⟩ := hq; exact k)
theorem zg_cSr5 {φ : Option Value → zg_V → Prop} {μ' : zg_M} {ix d' : Nat} {x1 x2 x3 x4 x5 : Value} (hd : decode μ.2.1 pc = .ok (.invokestatic ix, 3)) (hm : zn_M μ' 5) (hl : Cond.methodLink μ.1.cls ix μ'.1 ∈ zn_TS) (hi : Cond.static μ'.1 ∈ zn_TS) (hS : zg_S Γ μ' d' 0 0 [x1, x2, x3, x4, x5] K N P V (zq_r K N P φ)) (hfr : d' + 1 ≤ R.frames) (hlo : 34 + 36 * d' ≤ R.locals) (hw : (st.map fun v => v.category).sum ≤ 8)
    (k : ∀ (r : Option Value) (V' : zg_V), φ r V' → zg_G Γ Ξ μ R Ω bc bs (pc + 3) ls (r.toList ++ st) K N P V') : zg_G Γ Ξ μ R Ω bc bs pc ls (x5 :: x4 :: x3 :: x2 :: x1 :: st) K N P V :=
  zg_invS (As := [x1, x2, x3, x4, x5]) hd hm hl hi hS hfr hlo (Nat.zero_le _) (Nat.zero_le _) rfl hw rfl (fun r K' N' P' V' hq => by obtain ⟨rfl, rfl, rfl, h⟩ := hq; exact k r V' h)
theorem zg_cSs5 {φ : Option Value → zg_P → zg_V → Prop} {μ' : zg_M} {ix d' : Nat} {x1 x2 x3 x4 x5 : Value} (hd : decode μ.2.1 pc = .ok (.invokestatic ix, 3)) (hm : zn_M μ' 5) (hl : Cond.methodLink μ.1.cls ix μ'.1 ∈ zn_TS) (hi : Cond.static μ'.1 ∈ zn_TS) (hS : zg_S Γ μ' d' 0 0 [x1, x2, x3, x4, x5] K N P V (zq_s K N φ)) (hfr : d' + 1 ≤ R.frames) (hlo : 34 + 36 * d' ≤ R.locals) (hw : (st.map fun v => v.category).sum ≤ 8)
    (k : ∀ (r : Option Value) (P' : zg_P) (V' : zg_V), φ r P' V' → zg_G Γ Ξ μ R Ω bc bs (pc + 3) ls (r.toList ++ st) K N P' V') : zg_G Γ Ξ μ R Ω bc bs pc ls (x5 :: x4 :: x3 :: x2 :: x1 :: st) K N P V :=
  zg_invS (As := [x1, x2, x3, x4, x5]) hd hm hl hi hS hfr hlo (Nat.zero_le _) (Nat.zero_le _) rfl hw rfl (fun r K' N' P' V' hq => by obtain ⟨rfl, rfl, h⟩ := hq; exact k r P' V' h)
end ZC
end
section
/-! Table: readers -/
/-- the weight of the rows of s below n -/
def zt_w (w : Nat → Int) (s : Nat) (n : Nat) : Int := zs_sum (fun r => if s.testBit r then w r else 0) n
theorem zt_w_s (w : Nat → Int) (s i : Nat) : zt_w w s (i + 1) = zt_w w s i + (if s.testBit i then w i else 0) := rfl
theorem zs_mk_s (p : Nat → Bool) (i : Nat) : zs_mk p (i + 1) = if p i then zs_mk p i ||| 2 ^ i else zs_mk p i := rfl
theorem zs_mk_lt16 (p : Nat → Bool) {n : Nat} (h : n ≤ 16) : zs_mk p n < 65536 := Nat.lt_of_lt_of_le (zs_mk_lt p n) (Nat.pow_le_pow_right (by omega) h)
def zt_cls (cl : Nat → Int) (s : Nat) (c : Int) (n : Nat) : Nat := zs_mk (fun r => s.testBit r && decide (cl r = c)) n
def zt_pres (va : Nat → Nat → Int) (s f n : Nat) : Nat := zs_mk (fun r => s.testBit r && decide (va r f ≠ -2147483648)) n
def zt_upto (va : Nat → Nat → Int) (s f : Nat) (t : Int) (n : Nat) : Nat := zs_mk (fun r => s.testBit r && decide (va r f ≤ t)) n
def zt_pos (w : Nat → Int) (n : Nat) : Nat := zs_mk (fun r => decide (0 < w r)) n
abbrev zt_va (V : zg_V) : Nat → Nat → Int := fun r f => V (3 + r) f
/-- the table holds n rows, its numbers are in their bounds -/
def zt_T (V : zg_V) (n : Nat) : Prop := V 1 3 = (n : Int) ∧ n ≤ 16 ∧ (∀ r f, r < 16 → f < 3 → -2147483648 ≤ V (3 + r) f ∧ V (3 + r) f < 2147483648) ∧ (∀ r, r < 16 → 0 ≤ V 19 r ∧ V 19 r < 4) ∧ (∀ r, r < 16 → 0 ≤ V 20 r ∧ V 20 r ≤ 16)
section ZT1
variable {Γ : zg_C} {K : zg_K} {N : Nat} {P : zg_P} {V : zg_V}
theorem ct_contains {s r : Nat} (hs : s < 65536) (hr : r < 16) : zg_S Γ zm_Table_contains 0 0 0 [zg_i s, zg_i r] K N P V (zq_p K N P V (some (zg_i (zg_b (s.testBit r))))) := by
  refine zg_enter 0 (by decide) (Nat.le_of_ble_eq_true rfl) rfl ?_
  refine zg_il0 zd_Table_contains_0 ?_
  refine zg_il1 zd_Table_contains_1 ?_
  refine zg_ishrR zd_Table_contains_2 ?_
  refine zg_iconst zd_Table_contains_3 ?_
  refine zg_iand (zg_b (s.testBit r)) zd_Table_contains_4 (by rw [zb_bit (by omega) (by omega)]; cases s.testBit r <;> rfl) ?_
  generalize s.testBit r = b
  refine zg_if_eqB (tgt := 12) zd_Table_contains_5 (by decide) (fun h => ?_) (fun h => ?_)
  · subst h
    refine zg_iconst zd_Table_contains_12 ?_
    refine zg_zreturn zd_Table_contains_13 rfl (by omega) ?_
    exact ⟨rfl, rfl, rfl, rfl, rfl⟩
  · subst h
    refine zg_iconst zd_Table_contains_8 ?_
    refine zg_goto (tgt := 13) zd_Table_contains_9 (by decide) ?_
    refine zg_zreturn zd_Table_contains_13 rfl (by omega) ?_
    exact ⟨rfl, rfl, rfl, rfl, rfl⟩
theorem ct_weightOf {sh s n : Nat} (hs : s < 65536) (hT : zt_T V n) : zg_S Γ zm_Table_weightOf 1 0 0 [zg_r Γ 1, zg_i s] zk_K 242 (zk_P sh) V (zq_p zk_K 242 (zk_P sh) V (some (zg_i (zt_w (V 20) s n)))) := by
  obtain ⟨hn, hn16, -⟩ := hT
  refine zg_enter 2 (by decide) (Nat.le_of_ble_eq_true rfl) rfl ?_
  refine zg_iconst zd_Table_weightOf_0 ?_
  refine zg_is2 zd_Table_weightOf_1 (fun w h => by cases h <;> rfl) (by decide) ?_
  refine zg_iconst zd_Table_weightOf_2 ?_
  refine zg_is3 zd_Table_weightOf_3 (fun w h => by cases h <;> rfl) (by decide) ?_
  have key : ∀ (j i : Nat) (hij : i + j = n), zg_G Γ (fun _ => True) zm_Table_weightOf (zg_rm 1 0 0) (zg_Ω Γ (zq_p zk_K 242 (zk_P sh) V (some (zg_i (zt_w (V 20) s n)))) 0 0) 0 0 4 [some (zg_r Γ (1)), some (zg_i (s)), some (zg_i (zt_w (V 20) s i)), some (zg_i ((i : Nat)))] [] zk_K 242 (zk_P sh) (V) := by
    intro j
    induction j with
    | zero =>
      intro i hij
      have e : i = n := by omega
      subst e
      refine zg_il3 zd_Table_weightOf_4 ?_
      refine zg_al0 zd_Table_weightOf_5 ?_
      refine zg_geti zd_Table_weightOf_6 zf_39 (by omega) (by first | assumption | rfl) rfl ?_
      rw [hn]
      refine zg_icmp_ge (tgt := 35) zd_Table_weightOf_9 (by decide) (by omega) (by omega) (fun b9 => ?_) (fun b9 => ?_)
      · refine zg_il2 zd_Table_weightOf_35 ?_
        refine zg_ireturn zd_Table_weightOf_36 rfl ?_
        exact ⟨rfl, rfl, rfl, rfl, rfl⟩
      · omega
    | succ j ih =>
      intro i hij
      have ih := ih (i + 1) (by omega)
      rw [zt_w_s] at ih
      refine zg_il3 zd_Table_weightOf_4 ?_
      refine zg_al0 zd_Table_weightOf_5 ?_
      refine zg_geti zd_Table_weightOf_6 zf_39 (by omega) (by first | assumption | rfl) rfl ?_
      rw [hn]
      refine zg_icmp_ge (tgt := 35) zd_Table_weightOf_9 (by decide) (by omega) (by omega) (fun b9 => ?_) (fun b9 => ?_)
      · omega
      · refine zg_il1 zd_Table_weightOf_12 ?_
        refine zg_il3 zd_Table_weightOf_13 ?_
        refine zg_cSp2 zd_Table_weightOf_14 zM_Table_contains zw_286 zi_Table_contains (ct_contains hs (by omega)) (by decide) (by decide) (Nat.le_of_ble_eq_true rfl) ?_
        refine zg_if_eqB (tgt := 29) zd_Table_weightOf_17 (by decide) (fun b17 => ?_) (fun b17 => ?_)
        · refine zg_inc3 zd_Table_weightOf_29 (fun w h => by cases h <;> rfl) (by decide) ?_
          refine zg_goto (tgt := 4) zd_Table_weightOf_32 (by decide) ?_
          first | (rw [if_pos b17] at ih; exact ih) | (rw [b17, if_neg (by decide), Int.add_zero] at ih; exact ih)
        · refine zg_il2 zd_Table_weightOf_20 ?_
          refine zg_al0 zd_Table_weightOf_21 ?_
          refine zg_getr zd_Table_weightOf_22 zf_37 (by omega) (by first | assumption | rfl) rfl (by first | assumption | rfl) ?_
          refine zg_il3 zd_Table_weightOf_25 ?_
          refine zg_iald zd_Table_weightOf_26 (by omega) (by first | assumption | rfl) rfl (by omega) (by decide) ?_
          refine zg_iadd zd_Table_weightOf_27 ?_
          refine zg_is2 zd_Table_weightOf_28 (fun w h => by cases h <;> rfl) (by decide) ?_
          refine zg_inc3 zd_Table_weightOf_29 (fun w h => by cases h <;> rfl) (by decide) ?_
          refine zg_goto (tgt := 4) zd_Table_weightOf_32 (by decide) ?_
          first | (rw [if_pos b17] at ih; exact ih) | (rw [b17, if_neg (by decide), Int.add_zero] at ih; exact ih)
  exact key n 0 (by omega)
theorem ct_weightyRows {sh n : Nat} (hT : zt_T V n) : zg_S Γ zm_Table_weightyRows 0 0 0 [zg_r Γ 1] zk_K 242 (zk_P sh) V (zq_p zk_K 242 (zk_P sh) V (some (zg_i (zt_pos (V 20) n)))) := by
  obtain ⟨hn, hn16, -, -, hw⟩ := hT
  refine zg_enter 2 (by decide) (Nat.le_of_ble_eq_true rfl) rfl ?_
  refine zg_iconst zd_Table_weightyRows_0 ?_
  refine zg_is1 zd_Table_weightyRows_1 (fun w h => by cases h <;> rfl) (by decide) ?_
  refine zg_iconst zd_Table_weightyRows_2 ?_
  refine zg_is2 zd_Table_weightyRows_3 (fun w h => by cases h <;> rfl) (by decide) ?_
  have key : ∀ (j i : Nat) (hij : i + j = n), zg_G Γ (fun _ => True) zm_Table_weightyRows (zg_rm 0 0 0) (zg_Ω Γ (zq_p zk_K 242 (zk_P sh) V (some (zg_i (zt_pos (V 20) n)))) 0 0) 0 0 4 [some (zg_r Γ (1)), some (zg_i ((zt_pos (V 20) i : Nat))), some (zg_i ((i : Nat)))] [] zk_K 242 (zk_P sh) (V) := by
    intro j
    induction j with
    | zero =>
      intro i hij
      have e : i = n := by omega
      subst e
      refine zg_il2 zd_Table_weightyRows_4 ?_
      refine zg_al0 zd_Table_weightyRows_5 ?_
      refine zg_geti zd_Table_weightyRows_6 zf_39 (by omega) (by first | assumption | rfl) rfl ?_
      rw [hn]
      refine zg_icmp_ge (tgt := 33) zd_Table_weightyRows_9 (by decide) (by omega) (by omega) (fun b9 => ?_) (fun b9 => ?_)
      · refine zg_il1 zd_Table_weightyRows_33 ?_
        refine zg_ireturn zd_Table_weightyRows_34 rfl ?_
        exact ⟨rfl, rfl, rfl, rfl, rfl⟩
      · omega
    | succ j ih =>
      intro i hij
      have ih := ih (i + 1) (by omega)
      have hwi := hw i (by omega)
      unfold zt_pos at ih ⊢
      rw [zs_mk_s] at ih
      refine zg_il2 zd_Table_weightyRows_4 ?_
      refine zg_al0 zd_Table_weightyRows_5 ?_
      refine zg_geti zd_Table_weightyRows_6 zf_39 (by omega) (by first | assumption | rfl) rfl ?_
      rw [hn]
      refine zg_icmp_ge (tgt := 33) zd_Table_weightyRows_9 (by decide) (by omega) (by omega) (fun b9 => ?_) (fun b9 => ?_)
      · omega
      · refine zg_al0 zd_Table_weightyRows_12 ?_
        refine zg_getr zd_Table_weightyRows_13 zf_37 (by omega) (by first | assumption | rfl) rfl (by first | assumption | rfl) ?_
        refine zg_il2 zd_Table_weightyRows_16 ?_
        refine zg_iald zd_Table_weightyRows_17 (by omega) (by first | assumption | rfl) rfl (by omega) (by decide) ?_
        refine zg_if_le (tgt := 27) zd_Table_weightyRows_18 (by decide) (by omega) (fun b18 => ?_) (fun b18 => ?_)
        · refine zg_inc2 zd_Table_weightyRows_27 (fun w h => by cases h <;> rfl) (by decide) ?_
          refine zg_goto (tgt := 4) zd_Table_weightyRows_30 (by decide) ?_
          first | (rw [if_pos (by simp [zt_va, *] <;> omega)] at ih; exact ih) | (rw [if_neg (by simp [zt_va, *] <;> omega)] at ih; exact ih)
        · refine zg_il1 zd_Table_weightyRows_21 ?_
          refine zg_iconst zd_Table_weightyRows_22 ?_
          refine zg_il2 zd_Table_weightyRows_23 ?_
          refine zg_ishl ((2 ^ i : Nat) : Int) zd_Table_weightyRows_24 (zb_shl i (by omega)) ?_
          refine zg_ior ((zs_mk (fun r => decide (0 < V 20 r)) i ||| 2 ^ i : Nat) : Int) zd_Table_weightyRows_25 (zb_or _ _) ?_
          refine zg_is1 zd_Table_weightyRows_26 (fun w h => by cases h <;> rfl) (by decide) ?_
          refine zg_inc2 zd_Table_weightyRows_27 (fun w h => by cases h <;> rfl) (by decide) ?_
          refine zg_goto (tgt := 4) zd_Table_weightyRows_30 (by decide) ?_
          first | (rw [if_pos (by simp [zt_va, *] <;> omega)] at ih; exact ih) | (rw [if_neg (by simp [zt_va, *] <;> omega)] at ih; exact ih)
  exact key n 0 (by omega)
theorem ct_rowsInClass {sh s n : Nat} {c : Int} (hs : s < 65536) (hc : 0 ≤ c ∧ c < 4) (hT : zt_T V n) : zg_S Γ zm_Table_rowsInClass 1 0 0 [zg_r Γ 1, zg_i s, zg_i c] zk_K 242 (zk_P sh) V (zq_p zk_K 242 (zk_P sh) V (some (zg_i (zt_cls (V 19) s c n)))) := by
  obtain ⟨hn, hn16, -, hcl, -⟩ := hT
  refine zg_enter 2 (by decide) (Nat.le_of_ble_eq_true rfl) rfl ?_
  refine zg_iconst zd_Table_rowsInClass_0 ?_
  refine zg_is3 zd_Table_rowsInClass_1 (fun w h => by cases h <;> rfl) (by decide) ?_
  refine zg_iconst zd_Table_rowsInClass_2 ?_
  refine zg_is4 zd_Table_rowsInClass_3 (fun w h => by cases h <;> rfl) (by decide) ?_
  have key : ∀ (j i : Nat) (hij : i + j = n), zg_G Γ (fun _ => True) zm_Table_rowsInClass (zg_rm 1 0 0) (zg_Ω Γ (zq_p zk_K 242 (zk_P sh) V (some (zg_i (zt_cls (V 19) s c n)))) 0 0) 0 0 5 [some (zg_r Γ (1)), some (zg_i (s)), some (zg_i (c)), some (zg_i ((zt_cls (V 19) s c i : Nat))), some (zg_i ((i : Nat)))] [] zk_K 242 (zk_P sh) (V) := by
    intro j
    induction j with
    | zero =>
      intro i hij
      have e : i = n := by omega
      subst e
      refine zg_il4 zd_Table_rowsInClass_5 ?_
      refine zg_al0 zd_Table_rowsInClass_7 ?_
      refine zg_geti zd_Table_rowsInClass_8 zf_39 (by omega) (by first | assumption | rfl) rfl ?_
      rw [hn]
      refine zg_icmp_ge (tgt := 47) zd_Table_rowsInClass_11 (by decide) (by omega) (by omega) (fun b11 => ?_) (fun b11 => ?_)
      · refine zg_il3 zd_Table_rowsInClass_47 ?_
        refine zg_ireturn zd_Table_rowsInClass_48 rfl ?_
        exact ⟨rfl, rfl, rfl, rfl, rfl⟩
      · omega
    | succ j ih =>
      intro i hij
      have ih := ih (i + 1) (by omega)
      have hci := hcl i (by omega)
      unfold zt_cls at ih ⊢
      rw [zs_mk_s] at ih
      refine zg_il4 zd_Table_rowsInClass_5 ?_
      refine zg_al0 zd_Table_rowsInClass_7 ?_
      refine zg_geti zd_Table_rowsInClass_8 zf_39 (by omega) (by first | assumption | rfl) rfl ?_
      rw [hn]
      refine zg_icmp_ge (tgt := 47) zd_Table_rowsInClass_11 (by decide) (by omega) (by omega) (fun b11 => ?_) (fun b11 => ?_)
      · omega
      · refine zg_il1 zd_Table_rowsInClass_14 ?_
        refine zg_il4 zd_Table_rowsInClass_15 ?_
        refine zg_cSp2 zd_Table_rowsInClass_17 zM_Table_contains zw_286 zi_Table_contains (ct_contains hs (by omega)) (by decide) (by decide) (Nat.le_of_ble_eq_true rfl) ?_
        refine zg_if_eqB (tgt := 41) zd_Table_rowsInClass_20 (by decide) (fun b20 => ?_) (fun b20 => ?_)
        · refine zg_inc4 zd_Table_rowsInClass_41 (fun w h => by cases h <;> rfl) (by decide) ?_
          refine zg_goto (tgt := 5) zd_Table_rowsInClass_44 (by decide) ?_
          first | (rw [if_pos (by simp [zt_va, *] <;> omega)] at ih; exact ih) | (rw [if_neg (by simp [zt_va, *] <;> omega)] at ih; exact ih)
        · refine zg_al0 zd_Table_rowsInClass_23 ?_
          refine zg_getr zd_Table_rowsInClass_24 zf_35 (by omega) (by first | assumption | rfl) rfl (by first | assumption | rfl) ?_
          refine zg_il4 zd_Table_rowsInClass_27 ?_
          refine zg_iald zd_Table_rowsInClass_29 (by omega) (by first | assumption | rfl) rfl (by omega) (by decide) ?_
          refine zg_il2 zd_Table_rowsInClass_30 ?_
          refine zg_icmp_ne (tgt := 41) zd_Table_rowsInClass_31 (by decide) (by omega) (by omega) (fun b31 => ?_) (fun b31 => ?_)
          · refine zg_inc4 zd_Table_rowsInClass_41 (fun w h => by cases h <;> rfl) (by decide) ?_
            refine zg_goto (tgt := 5) zd_Table_rowsInClass_44 (by decide) ?_
            first | (rw [if_pos (by simp [zt_va, *] <;> omega)] at ih; exact ih) | (rw [if_neg (by simp [zt_va, *] <;> omega)] at ih; exact ih)
          · refine zg_il3 zd_Table_rowsInClass_34 ?_
            refine zg_iconst zd_Table_rowsInClass_35 ?_
            refine zg_il4 zd_Table_rowsInClass_36 ?_
            refine zg_ishl ((2 ^ i : Nat) : Int) zd_Table_rowsInClass_38 (zb_shl i (by omega)) ?_
            refine zg_ior ((zs_mk (fun r => s.testBit r && decide (V 19 r = c)) i ||| 2 ^ i : Nat) : Int) zd_Table_rowsInClass_39 (zb_or _ _) ?_
            refine zg_is3 zd_Table_rowsInClass_40 (fun w h => by cases h <;> rfl) (by decide) ?_
            refine zg_inc4 zd_Table_rowsInClass_41 (fun w h => by cases h <;> rfl) (by decide) ?_
            refine zg_goto (tgt := 5) zd_Table_rowsInClass_44 (by decide) ?_
            first | (rw [if_pos (by simp [zt_va, *] <;> omega)] at ih; exact ih) | (rw [if_neg (by simp [zt_va, *] <;> omega)] at ih; exact ih)
  exact key n 0 (by omega)
theorem ct_rowsPresent {sh s f n : Nat} (hs : s < 65536) (hf : f < 3) (hT : zt_T V n) : zg_S Γ zm_Table_rowsPresent 1 0 0 [zg_r Γ 1, zg_i s, zg_i f] zk_K 242 (zk_P sh) V (zq_p zk_K 242 (zk_P sh) V (some (zg_i (zt_pres (zt_va V) s f n)))) := by
  obtain ⟨hn, hn16, hva, -, -⟩ := hT
  refine zg_enter 2 (by decide) (Nat.le_of_ble_eq_true rfl) rfl ?_
  refine zg_iconst zd_Table_rowsPresent_0 ?_
  refine zg_is3 zd_Table_rowsPresent_1 (fun w h => by cases h <;> rfl) (by decide) ?_
  refine zg_iconst zd_Table_rowsPresent_2 ?_
  refine zg_is4 zd_Table_rowsPresent_3 (fun w h => by cases h <;> rfl) (by decide) ?_
  have key : ∀ (j i : Nat) (hij : i + j = n), zg_G Γ (fun _ => True) zm_Table_rowsPresent (zg_rm 1 0 0) (zg_Ω Γ (zq_p zk_K 242 (zk_P sh) V (some (zg_i (zt_pres (zt_va V) s f n)))) 0 0) 0 0 5 [some (zg_r Γ (1)), some (zg_i (s)), some (zg_i (f)), some (zg_i ((zt_pres (zt_va V) s f i : Nat))), some (zg_i ((i : Nat)))] [] zk_K 242 (zk_P sh) (V) := by
    intro j
    induction j with
    | zero =>
      intro i hij
      have e : i = n := by omega
      subst e
      refine zg_il4 zd_Table_rowsPresent_5 ?_
      refine zg_al0 zd_Table_rowsPresent_7 ?_
      refine zg_geti zd_Table_rowsPresent_8 zf_39 (by omega) (by first | assumption | rfl) rfl ?_
      rw [hn]
      refine zg_icmp_ge (tgt := 50) zd_Table_rowsPresent_11 (by decide) (by omega) (by omega) (fun b11 => ?_) (fun b11 => ?_)
      · refine zg_il3 zd_Table_rowsPresent_50 ?_
        refine zg_ireturn zd_Table_rowsPresent_51 rfl ?_
        exact ⟨rfl, rfl, rfl, rfl, rfl⟩
      · omega
    | succ j ih =>
      intro i hij
      have ih := ih (i + 1) (by omega)
      have hvi := hva i f (by omega) hf
      have hpi := zp_values (sh := sh) (show i < 16 by omega)
      have hki := (zk_row i (by omega)).1
      unfold zt_pres at ih ⊢
      rw [zs_mk_s] at ih
      refine zg_il4 zd_Table_rowsPresent_5 ?_
      refine zg_al0 zd_Table_rowsPresent_7 ?_
      refine zg_geti zd_Table_rowsPresent_8 zf_39 (by omega) (by first | assumption | rfl) rfl ?_
      rw [hn]
      refine zg_icmp_ge (tgt := 50) zd_Table_rowsPresent_11 (by decide) (by omega) (by omega) (fun b11 => ?_) (fun b11 => ?_)
      · omega
      · refine zg_il1 zd_Table_rowsPresent_14 ?_
        refine zg_il4 zd_Table_rowsPresent_15 ?_
        refine zg_cSp2 zd_Table_rowsPresent_17 zM_Table_contains zw_286 zi_Table_contains (ct_contains hs (by omega)) (by decide) (by decide) (Nat.le_of_ble_eq_true rfl) ?_
        refine zg_if_eqB (tgt := 44) zd_Table_rowsPresent_20 (by decide) (fun b20 => ?_) (fun b20 => ?_)
        · refine zg_inc4 zd_Table_rowsPresent_44 (fun w h => by cases h <;> rfl) (by decide) ?_
          refine zg_goto (tgt := 5) zd_Table_rowsPresent_47 (by decide) ?_
          first | (rw [if_pos (by simp [zt_va, *] <;> omega)] at ih; exact ih) | (rw [if_neg (by simp [zt_va, *] <;> omega)] at ih; exact ih)
        · refine zg_al0 zd_Table_rowsPresent_23 ?_
          refine zg_getr zd_Table_rowsPresent_24 zf_31 (by omega) (by first | assumption | rfl) rfl (by first | assumption | rfl) ?_
          refine zg_il4 zd_Table_rowsPresent_27 ?_
          refine zg_aald zd_Table_rowsPresent_29 (by omega) (by first | assumption | rfl) rfl rfl rfl (by omega) (by decide) (by first | assumption | rfl) ?_
          refine zg_il2 zd_Table_rowsPresent_30 ?_
          refine zg_iald zd_Table_rowsPresent_31 (by omega) (by first | assumption | rfl) rfl (by omega) (by decide) ?_
          refine zg_ldc (-2147483648) zd_Table_rowsPresent_32 zw_416 (by decide) ?_
          refine zg_icmp_eq (tgt := 44) zd_Table_rowsPresent_34 (by decide) (by omega) (by omega) (fun b34 => ?_) (fun b34 => ?_)
          · refine zg_inc4 zd_Table_rowsPresent_44 (fun w h => by cases h <;> rfl) (by decide) ?_
            refine zg_goto (tgt := 5) zd_Table_rowsPresent_47 (by decide) ?_
            first | (rw [if_pos (by simp [zt_va, *] <;> omega)] at ih; exact ih) | (rw [if_neg (by simp [zt_va, *] <;> omega)] at ih; exact ih)
          · refine zg_il3 zd_Table_rowsPresent_37 ?_
            refine zg_iconst zd_Table_rowsPresent_38 ?_
            refine zg_il4 zd_Table_rowsPresent_39 ?_
            refine zg_ishl ((2 ^ i : Nat) : Int) zd_Table_rowsPresent_41 (zb_shl i (by omega)) ?_
            refine zg_ior ((zs_mk (fun r => s.testBit r && decide (zt_va V r f ≠ -2147483648)) i ||| 2 ^ i : Nat) : Int) zd_Table_rowsPresent_42 (zb_or _ _) ?_
            refine zg_is3 zd_Table_rowsPresent_43 (fun w h => by cases h <;> rfl) (by decide) ?_
            refine zg_inc4 zd_Table_rowsPresent_44 (fun w h => by cases h <;> rfl) (by decide) ?_
            refine zg_goto (tgt := 5) zd_Table_rowsPresent_47 (by decide) ?_
            first | (rw [if_pos (by simp [zt_va, *] <;> omega)] at ih; exact ih) | (rw [if_neg (by simp [zt_va, *] <;> omega)] at ih; exact ih)
  exact key n 0 (by omega)
theorem ct_rowsUpTo {sh s f n : Nat} {t : Int} (hs : s < 65536) (hf : f < 3) (ht : -2147483648 ≤ t ∧ t < 2147483648) (hT : zt_T V n) : zg_S Γ zm_Table_rowsUpTo 1 0 0 [zg_r Γ 1, zg_i s, zg_i f, zg_i t] zk_K 242 (zk_P sh) V (zq_p zk_K 242 (zk_P sh) V (some (zg_i (zt_upto (zt_va V) s f t n)))) := by
  obtain ⟨hn, hn16, hva, -, -⟩ := hT
  refine zg_enter 2 (by decide) (Nat.le_of_ble_eq_true rfl) rfl ?_
  refine zg_iconst zd_Table_rowsUpTo_0 ?_
  refine zg_is4 zd_Table_rowsUpTo_1 (fun w h => by cases h <;> rfl) (by decide) ?_
  refine zg_iconst zd_Table_rowsUpTo_3 ?_
  refine zg_is5 zd_Table_rowsUpTo_4 (fun w h => by cases h <;> rfl) (by decide) ?_
  have key : ∀ (j i : Nat) (hij : i + j = n), zg_G Γ (fun _ => True) zm_Table_rowsUpTo (zg_rm 1 0 0) (zg_Ω Γ (zq_p zk_K 242 (zk_P sh) V (some (zg_i (zt_upto (zt_va V) s f t n)))) 0 0) 0 0 6 [some (zg_r Γ (1)), some (zg_i (s)), some (zg_i (f)), some (zg_i (t)), some (zg_i ((zt_upto (zt_va V) s f t i : Nat))), some (zg_i ((i : Nat)))] [] zk_K 242 (zk_P sh) (V) := by
    intro j
    induction j with
    | zero =>
      intro i hij
      have e : i = n := by omega
      subst e
      refine zg_il5 zd_Table_rowsUpTo_6 ?_
      refine zg_al0 zd_Table_rowsUpTo_8 ?_
      refine zg_geti zd_Table_rowsUpTo_9 zf_39 (by omega) (by first | assumption | rfl) rfl ?_
      rw [hn]
      refine zg_icmp_ge (tgt := 52) zd_Table_rowsUpTo_12 (by decide) (by omega) (by omega) (fun b12 => ?_) (fun b12 => ?_)
      · refine zg_il4 zd_Table_rowsUpTo_52 ?_
        refine zg_ireturn zd_Table_rowsUpTo_54 rfl ?_
        exact ⟨rfl, rfl, rfl, rfl, rfl⟩
      · omega
    | succ j ih =>
      intro i hij
      have ih := ih (i + 1) (by omega)
      have hvi := hva i f (by omega) hf
      have hpi := zp_values (sh := sh) (show i < 16 by omega)
      have hki := (zk_row i (by omega)).1
      unfold zt_upto at ih ⊢
      rw [zs_mk_s] at ih
      refine zg_il5 zd_Table_rowsUpTo_6 ?_
      refine zg_al0 zd_Table_rowsUpTo_8 ?_
      refine zg_geti zd_Table_rowsUpTo_9 zf_39 (by omega) (by first | assumption | rfl) rfl ?_
      rw [hn]
      refine zg_icmp_ge (tgt := 52) zd_Table_rowsUpTo_12 (by decide) (by omega) (by omega) (fun b12 => ?_) (fun b12 => ?_)
      · omega
      · refine zg_il1 zd_Table_rowsUpTo_15 ?_
        refine zg_il5 zd_Table_rowsUpTo_16 ?_
        refine zg_cSp2 zd_Table_rowsUpTo_18 zM_Table_contains zw_286 zi_Table_contains (ct_contains hs (by omega)) (by decide) (by decide) (Nat.le_of_ble_eq_true rfl) ?_
        refine zg_if_eqB (tgt := 46) zd_Table_rowsUpTo_21 (by decide) (fun b21 => ?_) (fun b21 => ?_)
        · refine zg_inc5 zd_Table_rowsUpTo_46 (fun w h => by cases h <;> rfl) (by decide) ?_
          refine zg_goto (tgt := 6) zd_Table_rowsUpTo_49 (by decide) ?_
          first | (rw [if_pos (by simp [zt_va, *] <;> omega)] at ih; exact ih) | (rw [if_neg (by simp [zt_va, *] <;> omega)] at ih; exact ih)
        · refine zg_al0 zd_Table_rowsUpTo_24 ?_
          refine zg_getr zd_Table_rowsUpTo_25 zf_31 (by omega) (by first | assumption | rfl) rfl (by first | assumption | rfl) ?_
          refine zg_il5 zd_Table_rowsUpTo_28 ?_
          refine zg_aald zd_Table_rowsUpTo_30 (by omega) (by first | assumption | rfl) rfl rfl rfl (by omega) (by decide) (by first | assumption | rfl) ?_
          refine zg_il2 zd_Table_rowsUpTo_31 ?_
          refine zg_iald zd_Table_rowsUpTo_32 (by omega) (by first | assumption | rfl) rfl (by omega) (by decide) ?_
          refine zg_il3 zd_Table_rowsUpTo_33 ?_
          refine zg_icmp_gt (tgt := 46) zd_Table_rowsUpTo_34 (by decide) (by omega) (by omega) (fun b34 => ?_) (fun b34 => ?_)
          · refine zg_inc5 zd_Table_rowsUpTo_46 (fun w h => by cases h <;> rfl) (by decide) ?_
            refine zg_goto (tgt := 6) zd_Table_rowsUpTo_49 (by decide) ?_
            first | (rw [if_pos (by simp [zt_va, *] <;> omega)] at ih; exact ih) | (rw [if_neg (by simp [zt_va, *] <;> omega)] at ih; exact ih)
          · refine zg_il4 zd_Table_rowsUpTo_37 ?_
            refine zg_iconst zd_Table_rowsUpTo_39 ?_
            refine zg_il5 zd_Table_rowsUpTo_40 ?_
            refine zg_ishl ((2 ^ i : Nat) : Int) zd_Table_rowsUpTo_42 (zb_shl i (by omega)) ?_
            refine zg_ior ((zs_mk (fun r => s.testBit r && decide (zt_va V r f ≤ t)) i ||| 2 ^ i : Nat) : Int) zd_Table_rowsUpTo_43 (zb_or _ _) ?_
            refine zg_is4 zd_Table_rowsUpTo_44 (fun w h => by cases h <;> rfl) (by decide) ?_
            refine zg_inc5 zd_Table_rowsUpTo_46 (fun w h => by cases h <;> rfl) (by decide) ?_
            refine zg_goto (tgt := 6) zd_Table_rowsUpTo_49 (by decide) ?_
            first | (rw [if_pos (by simp [zt_va, *] <;> omega)] at ih; exact ih) | (rw [if_neg (by simp [zt_va, *] <;> omega)] at ih; exact ih)
  exact key n 0 (by omega)
theorem ct_has {sh n : Nat} {r : Int} (hr : -2147483648 ≤ r ∧ r < 2147483648) (hT : zt_T V n) : zg_S Γ zm_Table_has 0 0 0 [zg_r Γ 1, zg_i r] zk_K 242 (zk_P sh) V (zq_p zk_K 242 (zk_P sh) V (some (zg_i (zg_b (decide (0 ≤ r ∧ r < n)))))) := by
  obtain ⟨hn, hn16, -⟩ := hT
  refine zg_enter 0 (by decide) (Nat.le_of_ble_eq_true rfl) rfl ?_
  refine zg_il1 zd_Table_has_0 ?_
  refine zg_if_lt (tgt := 16) zd_Table_has_1 (by decide) (by omega) (fun b1 => ?_) (fun b1 => ?_)
  · refine zg_iconst zd_Table_has_16 ?_
    refine zg_zreturn zd_Table_has_17 rfl (by omega) ?_
    exact ⟨by rw [zg_b_eq]; simp; omega, rfl, rfl, rfl, rfl⟩
  · refine zg_il1 zd_Table_has_4 ?_
    refine zg_al0 zd_Table_has_5 ?_
    refine zg_geti zd_Table_has_6 zf_39 (by omega) (by first | assumption | rfl) rfl ?_
    rw [hn]
    refine zg_icmp_ge (tgt := 16) zd_Table_has_9 (by decide) (by omega) (by omega) (fun b9 => ?_) (fun b9 => ?_)
    · refine zg_iconst zd_Table_has_16 ?_
      refine zg_zreturn zd_Table_has_17 rfl (by omega) ?_
      exact ⟨by rw [zg_b_eq]; simp; omega, rfl, rfl, rfl, rfl⟩
    · refine zg_iconst zd_Table_has_12 ?_
      refine zg_goto (tgt := 17) zd_Table_has_13 (by decide) ?_
      refine zg_zreturn zd_Table_has_17 rfl (by omega) ?_
      exact ⟨by rw [zg_b_eq]; simp; omega, rfl, rfl, rfl, rfl⟩
theorem ct_isFair {sh n : Nat} {r : Int} (hr : 0 ≤ r ∧ r ≤ 32) (h0 : 0 < n) (hn16 : n ≤ 16) (hn : V 1 3 = (n : Int)) : zg_S Γ zm_Table_isFair 0 0 0 [zg_r Γ 1, zg_i r] zk_K 242 (zk_P sh) V (zq_p zk_K 242 (zk_P sh) V (some (zg_i (zg_b (decide (r < 32 - 32 % (n : Int))))))) := by
  have hm : 0 ≤ 32 % (n : Int) ∧ 32 % (n : Int) < 16 := ⟨Int.emod_nonneg _ (by omega), by have := Int.emod_lt_of_pos 32 (show (0 : Int) < n by omega); omega⟩
  refine zg_enter 0 (by decide) (Nat.le_of_ble_eq_true rfl) rfl ?_
  refine zg_il1 zd_Table_isFair_0 ?_
  refine zg_bipush zd_Table_isFair_1 (by decide) ?_
  refine zg_bipush zd_Table_isFair_3 (by decide) ?_
  refine zg_al0 zd_Table_isFair_5 ?_
  refine zg_geti zd_Table_isFair_6 zf_39 (by omega) (by first | assumption | rfl) rfl ?_
  rw [hn]
  refine zg_irem (32 % (n : Int)) zd_Table_isFair_9 (by rw [zg_eq0 (by omega)]; omega) (zb_rem (by omega) (by omega) (by omega)) ?_
  refine zg_isub zd_Table_isFair_10 ?_
  refine zg_icmp_ge (tgt := 18) zd_Table_isFair_11 (by decide) (by omega) (by omega) (fun b11 => ?_) (fun b11 => ?_)
  · refine zg_iconst zd_Table_isFair_18 ?_
    refine zg_zreturn zd_Table_isFair_19 rfl (by omega) ?_
    exact ⟨by rw [zg_b_eq]; simp; omega, rfl, rfl, rfl, rfl⟩
  · refine zg_iconst zd_Table_isFair_14 ?_
    refine zg_goto (tgt := 19) zd_Table_isFair_15 (by decide) ?_
    refine zg_zreturn zd_Table_isFair_19 rfl (by omega) ?_
    exact ⟨by rw [zg_b_eq]; simp; omega, rfl, rfl, rfl, rfl⟩
end ZT1
end
section
/-! Table: writers; Ballot -/
def zv_fill (V : zg_V) (c n : Nat) (x : Int) : zg_V := fun a j => if a = c then if j < n then x else V a j else V a j
theorem zv_fill_0 (V : zg_V) (c : Nat) (x : Int) : zv_fill V c 0 x = V := by funext a j; simp [zv_fill]
theorem zv_fill_s (V : zg_V) (c n : Nat) (x : Int) : zg_u (zv_fill V c n x) c n x = zv_fill V c (n + 1) x := by
  funext a j
  unfold zg_u zv_fill
  by_cases h : a = c
  · simp only [h, if_true]
    by_cases h2 : j = n
    · simp [h2]
    · simp only [h2, if_false]
      by_cases h3 : j < n
      · rw [if_pos h3, if_pos (by omega)]
      · rw [if_neg h3, if_neg (by omega)]
  · simp [h]
theorem zv_fill_o (V : zg_V) (c n : Nat) (x : Int) {a : Nat} (h : a ≠ c) : zv_fill V c n x a = V a := by funext j; simp [zv_fill, h]
section ZT2
variable {Γ : zg_C} {K : zg_K} {N : Nat} {P : zg_P} {V : zg_V}
theorem ct_setWeights {sh n : Nat} {x : Int} (hn : V 1 3 = (n : Int)) (hn16 : n ≤ 16) : zg_S Γ zm_Table_setWeights 0 0 0 [zg_r Γ 1, zg_i x] zk_K 242 (zk_P sh) V (zq_p zk_K 242 (zk_P sh) (zv_fill V 20 n x) none) := by
  refine zg_enter 1 (by decide) (Nat.le_of_ble_eq_true rfl) rfl ?_
  refine zg_iconst zd_Table_setWeights_0 ?_
  refine zg_is2 zd_Table_setWeights_1 (fun w h => by cases h <;> rfl) (by decide) ?_
  have key : ∀ (j i : Nat) (hij : i + j = n), zg_G Γ (fun _ => True) zm_Table_setWeights (zg_rm 0 0 0) (zg_Ω Γ (zq_p zk_K 242 (zk_P sh) (zv_fill V 20 n x) none) 0 0) 0 0 2 [some (zg_r Γ (1)), some (zg_i (x)), some (zg_i ((i : Nat)))] [] zk_K 242 (zk_P sh) (zv_fill V 20 i x) := by
    intro j
    induction j with
    | zero =>
      intro i hij
      have e : i = n := by omega
      subst e
      refine zg_il2 zd_Table_setWeights_2 ?_
      refine zg_al0 zd_Table_setWeights_3 ?_
      refine zg_geti zd_Table_setWeights_4 zf_39 (by omega) (by first | assumption | rfl) rfl ?_
      rw [zv_fill_o _ _ _ _ (by decide), hn]
      refine zg_icmp_ge (tgt := 23) zd_Table_setWeights_7 (by decide) (by omega) (by omega) (fun b7 => ?_) (fun b7 => ?_)
      · refine zg_return zd_Table_setWeights_23 rfl ?_
        exact ⟨rfl, rfl, rfl, rfl, rfl⟩
      · omega
    | succ j ih =>
      intro i hij
      have ih := ih (i + 1) (by omega)
      rw [← zv_fill_s] at ih
      refine zg_il2 zd_Table_setWeights_2 ?_
      refine zg_al0 zd_Table_setWeights_3 ?_
      refine zg_geti zd_Table_setWeights_4 zf_39 (by omega) (by first | assumption | rfl) rfl ?_
      rw [zv_fill_o _ _ _ _ (by decide), hn]
      refine zg_icmp_ge (tgt := 23) zd_Table_setWeights_7 (by decide) (by omega) (by omega) (fun b7 => ?_) (fun b7 => ?_)
      · omega
      · refine zg_al0 zd_Table_setWeights_10 ?_
        refine zg_getr zd_Table_setWeights_11 zf_37 (by omega) (by first | assumption | rfl) rfl (by first | assumption | rfl) ?_
        refine zg_il2 zd_Table_setWeights_14 ?_
        refine zg_il1 zd_Table_setWeights_15 ?_
        refine zg_iast zd_Table_setWeights_16 (by omega) (by first | assumption | rfl) rfl (by omega) (by decide) ?_
        refine zg_inc2 zd_Table_setWeights_17 (fun w h => by cases h <;> rfl) (by decide) ?_
        refine zg_goto (tgt := 2) zd_Table_setWeights_20 (by decide) ?_
        exact ih
  have := key n 0 (by omega)
  rw [zv_fill_0] at this
  exact this
def zt_add (V : zg_V) (n : Nat) (a b c d : Int) : zg_V := zg_u (zg_u (zg_u (zg_u (zg_u V (3 + n) 0 a) (3 + n) 1 b) (3 + n) 2 c) 19 n d) 1 3 (n + 1 : Int)
theorem ct_append {sh n : Nat} {a b c d : Int} (hn : V 1 3 = (n : Int)) (hn16 : n < 16) : zg_S Γ zm_Table_append 0 0 0 [zg_r Γ 1, zg_i a, zg_i b, zg_i c, zg_i d] zk_K 242 (zk_P sh) V (zq_p zk_K 242 (zk_P sh) (zt_add V n a b c d) (some (zg_i n))) := by
  have hpi := zp_values (sh := sh) hn16
  have hki := (zk_row n hn16).1
  refine zg_enter 1 (by decide) (Nat.le_of_ble_eq_true rfl) rfl ?_
  refine zg_al0 zd_Table_append_0 ?_
  refine zg_geti zd_Table_append_1 zf_39 (by omega) (by first | assumption | rfl) rfl ?_
  rw [hn]
  refine zg_is5 zd_Table_append_4 (fun w h => by cases h <;> rfl) (by decide) ?_
  refine zg_al0 zd_Table_append_6 ?_
  refine zg_getr zd_Table_append_7 zf_31 (by omega) (by first | assumption | rfl) rfl (by first | assumption | rfl) ?_
  refine zg_il5 zd_Table_append_10 ?_
  refine zg_aald zd_Table_append_12 (by omega) (by first | assumption | rfl) rfl rfl rfl (by omega) (by decide) (by first | assumption | rfl) ?_
  refine zg_iconst zd_Table_append_13 ?_
  refine zg_il1 zd_Table_append_14 ?_
  refine zg_iast (j := 0) zd_Table_append_15 (by omega) (by assumption) rfl (by omega) (by decide) ?_
  refine zg_al0 zd_Table_append_16 ?_
  refine zg_getr zd_Table_append_17 zf_31 (by omega) (by first | assumption | rfl) rfl (by first | assumption | rfl) ?_
  refine zg_il5 zd_Table_append_20 ?_
  refine zg_aald zd_Table_append_22 (by omega) (by first | assumption | rfl) rfl rfl rfl (by omega) (by decide) (by first | assumption | rfl) ?_
  refine zg_iconst zd_Table_append_23 ?_
  refine zg_il2 zd_Table_append_24 ?_
  refine zg_iast (j := 1) zd_Table_append_25 (by omega) (by assumption) rfl (by omega) (by decide) ?_
  refine zg_al0 zd_Table_append_26 ?_
  refine zg_getr zd_Table_append_27 zf_31 (by omega) (by first | assumption | rfl) rfl (by first | assumption | rfl) ?_
  refine zg_il5 zd_Table_append_30 ?_
  refine zg_aald zd_Table_append_32 (by omega) (by first | assumption | rfl) rfl rfl rfl (by omega) (by decide) (by first | assumption | rfl) ?_
  refine zg_iconst zd_Table_append_33 ?_
  refine zg_il3 zd_Table_append_34 ?_
  refine zg_iast (j := 2) zd_Table_append_35 (by omega) (by assumption) rfl (by omega) (by decide) ?_
  refine zg_al0 zd_Table_append_36 ?_
  refine zg_getr zd_Table_append_37 zf_35 (by omega) (by first | assumption | rfl) rfl (by first | assumption | rfl) ?_
  refine zg_il5 zd_Table_append_40 ?_
  refine zg_il4 zd_Table_append_42 ?_
  refine zg_iast zd_Table_append_44 (by omega) (by first | assumption | rfl) rfl (by omega) (by decide) ?_
  refine zg_al0 zd_Table_append_45 ?_
  refine zg_dup zd_Table_append_46 rfl ?_
  refine zg_geti zd_Table_append_47 zf_39 (by omega) (by first | assumption | rfl) rfl ?_
  have e : zg_u (zg_u (zg_u (zg_u V (3 + n) 0 a) (3 + n) 1 b) (3 + n) 2 c) 19 n d 1 3 = (n : Int) := by
    rw [← hn]
    simp only [zg_u]
    rw [if_neg (by omega), if_neg (by omega), if_neg (by omega), if_neg (by omega)]
  rw [e]
  refine zg_iconst zd_Table_append_50 ?_
  refine zg_iadd zd_Table_append_51 ?_
  refine zg_puti zd_Table_append_52 zf_39 rfl (by omega) (by first | assumption | rfl) rfl ?_
  refine zg_il5 zd_Table_append_55 ?_
  refine zg_ireturn zd_Table_append_57 rfl ?_
  exact ⟨rfl, rfl, rfl, rfl, rfl⟩
/-- a draw: throws until one is fair, eight at most -/
def zt_in (n : Nat) : Nat → Int → Int → Int × Int
  | 0, s, r => (s, r)
  | j + 1, s, r => if r < 32 - 32 % (n : Int) then (s, r) else zt_in n j (s * 7391840562913847605 + 1027) (zb_top (s * 7391840562913847605 + 1027))
def zt_inc (w : Nat → Int) (k : Nat) : Nat → Int := fun x => if x = k then w x + 1 else w x
def zt_dr (n : Nat) : Nat → Int → (Nat → Int) → (Nat → Int)
  | 0, _, w => w
  | i + 1, s, w => zt_dr n i (zt_in n 8 s 32).1 (zt_inc w ((zt_in n 8 s 32).2 % (n : Int)).toNat)
def zv_row (V : zg_V) (c : Nat) (w : Nat → Int) : zg_V := fun a => if a = c then w else V a
theorem zv_row_i (V : zg_V) (c : Nat) (w : Nat → Int) : zv_row V c w c = w := by simp [zv_row]
theorem zv_row_o (V : zg_V) (c : Nat) (w : Nat → Int) {a : Nat} (h : a ≠ c) : zv_row V c w a = V a := by simp [zv_row, h]
theorem zv_row_inc (V : zg_V) (c k : Nat) (w : Nat → Int) : zg_u (zv_row V c w) c k (w k + 1) = zv_row V c (zt_inc w k) := by
  funext a j
  unfold zg_u zv_row zt_inc
  by_cases h : a = c
  · simp only [h, if_true]
    by_cases h2 : j = k
    · simp [h2]
    · simp [h2]
  · simp [h]
theorem zv_fill_row (V : zg_V) (c n : Nat) (x : Int) : zv_fill V c n x = zv_row V c (fun j => if j < n then x else V c j) := by
  funext a j
  unfold zv_fill zv_row
  by_cases h : a = c
  · simp [h]
  · simp [h]
theorem zt_in_b (n : Nat) : ∀ (j : Nat) (s r : Int), 0 ≤ r ∧ r ≤ 32 → 0 ≤ (zt_in n j s r).2 ∧ (zt_in n j s r).2 ≤ 32
  | 0, s, r, h => h
  | j + 1, s, r, h => by
    unfold zt_in
    split
    · exact h
    · have := zb_top_b (s * 7391840562913847605 + 1027)
      exact zt_in_b n j _ _ (by omega)
def zt_w0 (V : zg_V) (n : Nat) : Nat → Int := fun j => if j < n then 0 else V 20 j
theorem zt_in_s (n j : Nat) (s r : Int) : zt_in n (j + 1) s r = if r < 32 - 32 % (n : Int) then (s, r) else zt_in n j (s * 7391840562913847605 + 1027) (zb_top (s * 7391840562913847605 + 1027)) := rfl
theorem ct_isFair2 {Γ : zg_C} {V : zg_V} {sh n : Nat} {r : Int} (hr : 0 ≤ r ∧ r ≤ 32) (h0 : 0 < n) (hn16 : n ≤ 16) (hn : V 1 3 = (n : Int)) : zg_S Γ zm_Table_isFair 0 0 0 [zg_r Γ 1, zg_i r] zk_K 242 (zk_P sh) V (zq_p zk_K 242 (zk_P sh) V (some (zg_i (zg_b (decide (r < 32 - 32 % (n : Int))))))) := ct_isFair hr h0 hn16 hn
theorem ct_draw {sh n : Nat} {z : Int} (hn : V 1 3 = (n : Int)) (h0 : 0 < n) (hn16 : n ≤ 16) : zg_S Γ zm_Table_draw 1 0 0 [zg_r Γ 1, zg_l z] zk_K 242 (zk_P sh) V (zq_p zk_K 242 (zk_P sh) (zv_row V 20 (zt_dr n n z (zt_w0 V n))) none) := by
  refine zg_enter 5 (by decide) (Nat.le_of_ble_eq_true rfl) rfl ?_
  refine zg_al0 zd_Table_draw_0 ?_
  refine zg_iconst zd_Table_draw_1 ?_
  refine zg_cVq1 zd_Table_draw_2 zM_Table_setWeights zw_364 zi_Table_setWeights zs_Table_setWeights (ct_setWeights hn hn16) (by decide) (by decide) (by omega) (by first | assumption | rfl) (by decide) rfl (Nat.le_of_ble_eq_true rfl) ?_
  refine zg_ll1 zd_Table_draw_5 ?_
  refine zg_ls3 zd_Table_draw_6 (fun w h => by cases h <;> rfl) (by decide) ?_
  refine zg_iconst zd_Table_draw_7 ?_
  refine zg_is5 zd_Table_draw_8 (fun w h => by cases h <;> rfl) (by decide) ?_
  rw [show zv_fill V 20 n 0 = zv_row V 20 (zt_w0 V n) from zv_fill_row V 20 n 0]
  have key : ∀ (j i : Nat) (s : Int) (w : Nat → Int) (o6 o7 : Option Value) (hij : i + j = n) (hE : zt_dr n j s w = zt_dr n n z (zt_w0 V n)), zg_G Γ (fun _ => True) zm_Table_draw (zg_rm 1 0 0) (zg_Ω Γ (zq_p zk_K 242 (zk_P sh) (zv_row V 20 (zt_dr n n z (zt_w0 V n))) none) 0 0) 0 0 10 [some (zg_r Γ (1)), some (zg_l (z)), none, some (zg_l (s)), none, some (zg_i ((i : Nat))), o6, o7] [] zk_K 242 (zk_P sh) (zv_row V 20 w) := by
    intro j
    induction j with
    | zero =>
      intro i s w o6 o7 hij hE
      have e : i = n := by omega
      subst e
      refine zg_il5 zd_Table_draw_10 ?_
      refine zg_al0 zd_Table_draw_12 ?_
      refine zg_geti zd_Table_draw_13 zf_39 (by omega) (by first | assumption | rfl) rfl ?_
      rw [zv_row_o _ _ _ (by decide), hn]
      refine zg_icmp_ge (tgt := 87) zd_Table_draw_16 (by decide) (by omega) (by omega) (fun b16 => ?_) (fun b16 => ?_)
      · refine zg_return zd_Table_draw_87 rfl ?_
        exact ⟨rfl, rfl, rfl, rfl, by rw [← hE]; rfl⟩
      · omega
    | succ j ih =>
      intro i s w o6 o7 hij hE
      have hTn : zv_row V 20 w 1 3 = (n : Int) := by rw [zv_row_o _ _ _ (by decide), hn]
      have inner : ∀ (g a : Nat) (t r : Int), a + g = 8 → 0 ≤ r ∧ r ≤ 32 → zt_in n g t r = zt_in n 8 s 32 → zg_G Γ (fun _ => True) zm_Table_draw (zg_rm 1 0 0) (zg_Ω Γ (zq_p zk_K 242 (zk_P sh) (zv_row V 20 (zt_dr n n z (zt_w0 V n))) none) 0 0) 0 0 26 [some (zg_r Γ (1)), some (zg_l (z)), none, some (zg_l (t)), none, some (zg_i ((i : Nat))), some (zg_i (r)), some (zg_i ((a : Nat)))] [] zk_K 242 (zk_P sh) (zv_row V 20 w) := by
        have fin : ∀ (a : Nat) (t r : Int), 0 ≤ r ∧ r ≤ 32 → (t, r) = zt_in n 8 s 32 → zg_G Γ (fun _ => True) zm_Table_draw (zg_rm 1 0 0) (zg_Ω Γ (zq_p zk_K 242 (zk_P sh) (zv_row V 20 (zt_dr n n z (zt_w0 V n))) none) 0 0) 0 0 65 [some (zg_r Γ (1)), some (zg_l (z)), none, some (zg_l (t)), none, some (zg_i ((i : Nat))), some (zg_i (r)), some (zg_i ((a : Nat)))] [] zk_K 242 (zk_P sh) (zv_row V 20 w) := by
          intro a t r hr he
          have hm1 := Int.emod_nonneg r (show (n : Int) ≠ 0 by omega)
          have hm2 := Int.emod_lt_of_pos r (show (0 : Int) < n by omega)
          have hr' : (zt_in n 8 s 32).2 = r := by rw [← he]
          have ht' : (zt_in n 8 s 32).1 = t := by rw [← he]
          have ih := ih (i + 1) t (zt_inc w (r % (n : Int)).toNat) (some (zg_i r)) (some (zg_i a)) (by omega) (by rw [← hE]; show _ = zt_dr n j _ _; rw [hr', ht'])
          rw [← zv_row_inc] at ih
          refine zg_al0 zd_Table_draw_65 ?_
          refine zg_getr zd_Table_draw_66 zf_37 (by omega) (by first | assumption | rfl) rfl (by first | assumption | rfl) ?_
          refine zg_il6 zd_Table_draw_69 ?_
          refine zg_al0 zd_Table_draw_71 ?_
          refine zg_geti zd_Table_draw_72 zf_39 (by omega) (by first | assumption | rfl) rfl ?_
          rw [hTn]
          refine zg_irem (r % (n : Int)) zd_Table_draw_75 (by rw [zg_eq0 (by omega)]; omega) (zb_rem (by omega) (by omega) (by omega)) ?_
          refine zg_dup2 zd_Table_draw_76 rfl rfl ?_
          refine zg_iald (j := (r % (n : Int)).toNat) zd_Table_draw_77 (by omega) rfl (by omega) (by omega) (by decide) ?_
          refine zg_iconst zd_Table_draw_78 ?_
          refine zg_iadd zd_Table_draw_79 ?_
          refine zg_iast (j := (r % (n : Int)).toNat) zd_Table_draw_80 (by omega) rfl (by omega) (by omega) (by decide) ?_
          refine zg_inc5 zd_Table_draw_81 (fun w h => by cases h <;> rfl) (by decide) ?_
          refine zg_goto (tgt := 10) zd_Table_draw_84 (by decide) ?_
          rw [zv_row_i] at *; exact ih
        intro g
        induction g with
        | zero =>
          intro a t r hag hr he
          refine zg_il7 zd_Table_draw_26 ?_
          refine zg_bipush zd_Table_draw_28 (by decide) ?_
          refine zg_icmp_ge (tgt := 65) zd_Table_draw_30 (by decide) (by omega) (by omega) (fun b30 => ?_) (fun b30 => ?_)
          · exact fin a t r hr he
          · omega
        | succ g ihg =>
          intro a t r hag hr he
          rw [zt_in_s] at he
          have hb := zb_top_b (t * 7391840562913847605 + 1027)
          refine zg_il7 zd_Table_draw_26 ?_
          refine zg_bipush zd_Table_draw_28 (by decide) ?_
          refine zg_icmp_ge (tgt := 65) zd_Table_draw_30 (by decide) (by omega) (by omega) (fun b30 => ?_) (fun b30 => ?_)
          · first | omega | (rw [if_pos (by simpa using b39)] at he; exact fin a t r hr he)
          · refine zg_al0 zd_Table_draw_33 ?_
            refine zg_il6 zd_Table_draw_34 ?_
            refine zg_cVp1 zd_Table_draw_36 zM_Table_isFair zw_365 zi_Table_isFair zs_Table_isFair (ct_isFair2 hr h0 hn16 hTn) (by decide) (by decide) (by omega) (by first | assumption | rfl) (by decide) rfl (Nat.le_of_ble_eq_true rfl) ?_
            refine zg_if_neB (tgt := 65) zd_Table_draw_39 (by decide) (fun b39 => ?_) (fun b39 => ?_)
            · first | omega | (rw [if_pos (by simpa using b39)] at he; exact fin a t r hr he)
            · refine zg_ll3 zd_Table_draw_42 ?_
              refine zg_ldc2 (7391840562913847605) zd_Table_draw_43 zw_369 (by decide) ?_
              refine zg_lmul zd_Table_draw_46 ?_
              refine zg_ldc2 (1027) zd_Table_draw_47 zw_370 (by decide) ?_
              refine zg_ladd zd_Table_draw_50 ?_
              refine zg_ls3 zd_Table_draw_51 (fun w h => by cases h <;> rfl) (by decide) ?_
              refine zg_ll3 zd_Table_draw_52 ?_
              refine zg_bipush zd_Table_draw_53 (by decide) ?_
              refine zg_lushr (zb_top (t * 7391840562913847605 + 1027)) zd_Table_draw_55 (zb_lushr _) ?_
              refine zg_l2i zd_Table_draw_56 ?_
              refine zg_is6 zd_Table_draw_57 (fun w h => by cases h <;> rfl) (by decide) ?_
              refine zg_inc7 zd_Table_draw_59 (fun w h => by cases h <;> rfl) (by decide) ?_
              refine zg_goto (tgt := 26) zd_Table_draw_62 (by decide) ?_
              rw [if_neg (by simpa using b39)] at he; exact ihg (a + 1) _ _ (by omega) (by omega) he
      refine zg_il5 zd_Table_draw_10 ?_
      refine zg_al0 zd_Table_draw_12 ?_
      refine zg_geti zd_Table_draw_13 zf_39 (by omega) (by first | assumption | rfl) rfl ?_
      rw [hTn]
      refine zg_icmp_ge (tgt := 87) zd_Table_draw_16 (by decide) (by omega) (by omega) (fun b16 => ?_) (fun b16 => ?_)
      · omega
      · refine zg_bipush zd_Table_draw_19 (by decide) ?_
        refine zg_is6 zd_Table_draw_21 (fun w h => by cases h <;> rfl) (by decide) ?_
        refine zg_iconst zd_Table_draw_23 ?_
        refine zg_is7 zd_Table_draw_24 (fun w h => by cases h <;> rfl) (by decide) ?_
        exact inner 8 0 s 32 (by omega) (by omega) rfl
  have := key n 0 z (zt_w0 V n) none none (by omega) rfl
  exact this
theorem ct_add {sh r : Nat} {c : Nat} (hr : r < 16) (hc : c < 4) : zg_S Γ zm_Ballot_add 0 0 0 [zg_r Γ 21, zg_i r, zg_i c] zk_K 242 (zk_P sh) V (zq_p zk_K 242 (zk_P sh) (zg_u V (23 + r) c (V (23 + r) c + 1)) none) := by
  have hpi := zp_counts (sh := sh) hr
  have hki := (zk_row r hr).2
  refine zg_enter 0 (by decide) (Nat.le_of_ble_eq_true rfl) rfl ?_
  refine zg_al0 zd_Ballot_add_0 ?_
  refine zg_getr zd_Ballot_add_1 zf_60 (by omega) (by first | assumption | rfl) rfl (by first | assumption | rfl) ?_
  refine zg_il1 zd_Ballot_add_4 ?_
  refine zg_aald zd_Ballot_add_5 (by omega) (by first | assumption | rfl) rfl rfl rfl (by omega) (by decide) (by first | assumption | rfl) ?_
  refine zg_il2 zd_Ballot_add_6 ?_
  refine zg_dup2 zd_Ballot_add_7 rfl rfl ?_
  refine zg_iald zd_Ballot_add_8 (by omega) (by first | assumption | rfl) rfl (by omega) (by decide) ?_
  refine zg_iconst zd_Ballot_add_9 ?_
  refine zg_iadd zd_Ballot_add_10 ?_
  refine zg_iast zd_Ballot_add_11 (by omega) (by first | assumption | rfl) rfl (by omega) (by decide) ?_
  refine zg_return zd_Ballot_add_12 rfl ?_
  exact ⟨rfl, rfl, rfl, rfl, rfl⟩
/-- no votes -/
def zt_nv (V : zg_V) (n m : Nat) : zg_V := fun a j => if (23 ≤ a ∧ a < 23 + n ∧ j < 4) ∨ (a = 23 + n ∧ j < m) then 0 else V a j
theorem zt_nv_s (V : zg_V) {n m : Nat} (hm : m < 4) : zg_u (zt_nv V n m) (23 + n) m 0 = zt_nv V n (m + 1) := by
  funext a j
  unfold zg_u zt_nv
  by_cases h : a = 23 + n
  · subst h
    rw [if_pos rfl]
    by_cases h2 : j = m
    · subst h2; rw [if_pos rfl, if_pos (by omega)]
    · rw [if_neg h2]
      by_cases h3 : j < m
      · rw [if_pos (by omega), if_pos (by omega)]
      · rw [if_neg (by omega), if_neg (by omega)]
  · rw [if_neg h]
    by_cases h3 : 23 ≤ a ∧ a < 23 + n ∧ j < 4
    · rw [if_pos (by omega), if_pos (by omega)]
    · rw [if_neg (by omega), if_neg (by omega)]
theorem zt_nv_n (V : zg_V) (n : Nat) : zt_nv V n 4 = zt_nv V (n + 1) 0 := by
  funext a j
  unfold zt_nv
  by_cases h3 : 23 ≤ a ∧ a < 23 + n + 1 ∧ j < 4
  · rw [if_pos (by omega), if_pos (by omega)]
  · rw [if_neg (by omega), if_neg (by omega)]
theorem zt_nv_0 (V : zg_V) : zt_nv V 0 0 = V := by
  funext a j
  unfold zt_nv
  rw [if_neg (by omega)]
theorem ct_vclear {sh : Nat} : zg_S Γ zm_Ballot_clear 0 0 0 [zg_r Γ 21] zk_K 242 (zk_P sh) V (zq_p zk_K 242 (zk_P sh) (zt_nv V 16 0) none) := by
  generalize hQ : zq_p zk_K 242 (zk_P sh) (zt_nv V 16 0) none = Q
  refine zg_enter 2 (by decide) (Nat.le_of_ble_eq_true rfl) rfl ?_
  refine zg_iconst zd_Ballot_clear_0 ?_
  refine zg_is1 zd_Ballot_clear_1 (fun w h => by cases h <;> rfl) (by decide) ?_
  have key : ∀ (j i : Nat) (o2 : Option Value) (hij : i + j = 16), zg_G Γ (fun _ => True) zm_Ballot_clear (zg_rm 0 0 0) (zg_Ω Γ (Q) 0 0) 0 0 2 [some (zg_r Γ (21)), some (zg_i ((i : Nat))), o2] [] zk_K 242 (zk_P sh) (zt_nv V i 0) := by
    intro j
    induction j with
    | zero =>
      intro i o2 hij
      have e : i = 16 := by omega
      subst e
      refine zg_il1 zd_Ballot_clear_2 ?_
      refine zg_bipush zd_Ballot_clear_3 (by decide) ?_
      refine zg_icmp_ge (tgt := 36) zd_Ballot_clear_5 (by decide) (by omega) (by omega) (fun b5 => ?_) (fun b5 => ?_)
      · refine zg_return zd_Ballot_clear_36 rfl ?_
        subst hQ; exact ⟨rfl, rfl, rfl, rfl, rfl⟩
      · omega
    | succ j ih =>
      intro i o2 hij
      have hpi := zp_counts (sh := sh) (show i < 16 by omega)
      have hki := (zk_row i (show i < 16 by omega)).2
      have inner : ∀ (g m : Nat), m + g = 4 → zg_G Γ (fun _ => True) zm_Ballot_clear (zg_rm 0 0 0) (zg_Ω Γ (Q) 0 0) 0 0 10 [some (zg_r Γ (21)), some (zg_i ((i : Nat))), some (zg_i ((m : Nat)))] [] zk_K 242 (zk_P sh) (zt_nv V i m) := by
        intro g
        induction g with
        | zero =>
          intro m hm
          have e : m = 4 := by omega
          subst e
          have ih := ih (i + 1) (some (zg_i ((4 : Nat) : Int))) (by omega)
          rw [← zt_nv_n] at ih
          refine zg_il2 zd_Ballot_clear_10 ?_
          refine zg_iconst zd_Ballot_clear_11 ?_
          refine zg_icmp_ge (tgt := 30) zd_Ballot_clear_12 (by decide) (by omega) (by omega) (fun b12 => ?_) (fun b12 => ?_)
          · refine zg_inc1 zd_Ballot_clear_30 (fun w h => by cases h <;> rfl) (by decide) ?_
            refine zg_goto (tgt := 2) zd_Ballot_clear_33 (by decide) ?_
            exact ih
          · omega
        | succ g ihg =>
          intro m hm
          have ihg := ihg (m + 1) (by omega)
          rw [← zt_nv_s V (by omega)] at ihg
          refine zg_il2 zd_Ballot_clear_10 ?_
          refine zg_iconst zd_Ballot_clear_11 ?_
          refine zg_icmp_ge (tgt := 30) zd_Ballot_clear_12 (by decide) (by omega) (by omega) (fun b12 => ?_) (fun b12 => ?_)
          · omega
          · refine zg_al0 zd_Ballot_clear_15 ?_
            refine zg_getr zd_Ballot_clear_16 zf_60 (by omega) (by first | assumption | rfl) rfl (by first | assumption | rfl) ?_
            refine zg_il1 zd_Ballot_clear_19 ?_
            refine zg_aald zd_Ballot_clear_20 (by omega) (by first | assumption | rfl) rfl rfl rfl (by omega) (by decide) (by first | assumption | rfl) ?_
            refine zg_il2 zd_Ballot_clear_21 ?_
            refine zg_iconst zd_Ballot_clear_22 ?_
            refine zg_iast zd_Ballot_clear_23 (by omega) (by first | assumption | rfl) rfl (by omega) (by decide) ?_
            refine zg_inc2 zd_Ballot_clear_24 (fun w h => by cases h <;> rfl) (by decide) ?_
            refine zg_goto (tgt := 10) zd_Ballot_clear_27 (by decide) ?_
            exact ihg
      refine zg_il1 zd_Ballot_clear_2 ?_
      refine zg_bipush zd_Ballot_clear_3 (by decide) ?_
      refine zg_icmp_ge (tgt := 36) zd_Ballot_clear_5 (by decide) (by omega) (by omega) (fun b5 => ?_) (fun b5 => ?_)
      · omega
      · refine zg_iconst zd_Ballot_clear_8 ?_
        refine zg_is2 zd_Ballot_clear_9 (fun w h => by cases h <;> rfl) (by decide) ?_
        exact inner 4 0 (by omega)
  have := key 16 0 none (by omega)
  rw [zt_nv_0] at this
  exact this
/-- the least class of the most votes, -1 without votes -/
def zt_ch (v : Nat → Int) : Nat → Int × Int
  | 0 => (-1, 0)
  | c + 1 => if (zt_ch v c).2 < v c then ((c : Int), v c) else zt_ch v c
theorem zt_ch_s (v : Nat → Int) (c : Nat) : zt_ch v (c + 1) = if (zt_ch v c).2 < v c then ((c : Int), v c) else zt_ch v c := rfl
theorem ct_choice {sh r : Nat} (hr : r < 16) (hv : ∀ c, c < 4 → -2147483648 ≤ V (23 + r) c ∧ V (23 + r) c < 2147483648) : zg_S Γ zm_Ballot_choice 0 0 0 [zg_r Γ 21, zg_i r] zk_K 242 (zk_P sh) V (zq_p zk_K 242 (zk_P sh) V (some (zg_i (zt_ch (V (23 + r)) 4).1))) := by
  have hpi := zp_counts (sh := sh) hr
  have hki := (zk_row r hr).2
  generalize hQ : zq_p zk_K 242 (zk_P sh) V (some (zg_i (zt_ch (V (23 + r)) 4).1)) = Q
  refine zg_enter 3 (by decide) (Nat.le_of_ble_eq_true rfl) rfl ?_
  refine zg_iconst zd_Ballot_choice_0 ?_
  refine zg_is2 zd_Ballot_choice_1 (fun w h => by cases h <;> rfl) (by decide) ?_
  refine zg_iconst zd_Ballot_choice_2 ?_
  refine zg_is3 zd_Ballot_choice_3 (fun w h => by cases h <;> rfl) (by decide) ?_
  refine zg_iconst zd_Ballot_choice_4 ?_
  refine zg_is4 zd_Ballot_choice_5 (fun w h => by cases h <;> rfl) (by decide) ?_
  have hb : ∀ c, c ≤ 4 → -2147483648 ≤ (zt_ch (V (23 + r)) c).2 ∧ (zt_ch (V (23 + r)) c).2 < 2147483648 := by
    intro c
    induction c with
    | zero => intro _; exact ⟨by show (-2147483648 : Int) ≤ 0; decide, by show (0 : Int) < 2147483648; decide⟩
    | succ c ih =>
      intro h
      unfold zt_ch
      split
      · exact hv c (by omega)
      · exact ih (by omega)
  have key : ∀ (j i : Nat) (hij : i + j = 4), zg_G Γ (fun _ => True) zm_Ballot_choice (zg_rm 0 0 0) (zg_Ω Γ (Q) 0 0) 0 0 7 [some (zg_r Γ (21)), some (zg_i (r)), some (zg_i ((zt_ch (V (23 + r)) i).1)), some (zg_i ((zt_ch (V (23 + r)) i).2)), some (zg_i ((i : Nat)))] [] zk_K 242 (zk_P sh) (V) := by
    intro j
    induction j with
    | zero =>
      intro i hij
      have e : i = 4 := by omega
      subst e
      refine zg_il4 zd_Ballot_choice_7 ?_
      refine zg_iconst zd_Ballot_choice_9 ?_
      refine zg_icmp_ge (tgt := 45) zd_Ballot_choice_10 (by decide) (by omega) (by omega) (fun b10 => ?_) (fun b10 => ?_)
      · refine zg_il2 zd_Ballot_choice_45 ?_
        refine zg_ireturn zd_Ballot_choice_46 rfl ?_
        subst hQ; exact ⟨rfl, rfl, rfl, rfl, rfl⟩
      · omega
    | succ j ih =>
      intro i hij
      have ih := ih (i + 1) (by omega)
      have hvi := hv i (by omega)
      have hbi := hb i (by omega)
      rw [zt_ch_s] at ih
      refine zg_il4 zd_Ballot_choice_7 ?_
      refine zg_iconst zd_Ballot_choice_9 ?_
      refine zg_icmp_ge (tgt := 45) zd_Ballot_choice_10 (by decide) (by omega) (by omega) (fun b10 => ?_) (fun b10 => ?_)
      · omega
      · refine zg_al0 zd_Ballot_choice_13 ?_
        refine zg_getr zd_Ballot_choice_14 zf_60 (by omega) (by first | assumption | rfl) rfl (by first | assumption | rfl) ?_
        refine zg_il1 zd_Ballot_choice_17 ?_
        refine zg_aald zd_Ballot_choice_18 (by omega) (by first | assumption | rfl) rfl rfl rfl (by omega) (by decide) (by first | assumption | rfl) ?_
        refine zg_il4 zd_Ballot_choice_19 ?_
        refine zg_iald zd_Ballot_choice_21 (by omega) (by first | assumption | rfl) rfl (by omega) (by decide) ?_
        refine zg_il3 zd_Ballot_choice_22 ?_
        refine zg_icmp_le (tgt := 39) zd_Ballot_choice_23 (by decide) (by omega) (by omega) (fun b23 => ?_) (fun b23 => ?_)
        · refine zg_inc4 zd_Ballot_choice_39 (fun w h => by cases h <;> rfl) (by decide) ?_
          refine zg_goto (tgt := 7) zd_Ballot_choice_42 (by decide) ?_
          first | (rw [if_pos (by omega)] at ih; exact ih) | (rw [if_neg (by omega)] at ih; exact ih)
        · refine zg_al0 zd_Ballot_choice_26 ?_
          refine zg_getr zd_Ballot_choice_27 zf_60 (by omega) (by first | assumption | rfl) rfl (by first | assumption | rfl) ?_
          refine zg_il1 zd_Ballot_choice_30 ?_
          refine zg_aald zd_Ballot_choice_31 (by omega) (by first | assumption | rfl) rfl rfl rfl (by omega) (by decide) (by first | assumption | rfl) ?_
          refine zg_il4 zd_Ballot_choice_32 ?_
          refine zg_iald zd_Ballot_choice_34 (by omega) (by first | assumption | rfl) rfl (by omega) (by decide) ?_
          refine zg_is3 zd_Ballot_choice_35 (fun w h => by cases h <;> rfl) (by decide) ?_
          refine zg_il4 zd_Ballot_choice_36 ?_
          refine zg_is2 zd_Ballot_choice_38 (fun w h => by cases h <;> rfl) (by decide) ?_
          refine zg_inc4 zd_Ballot_choice_39 (fun w h => by cases h <;> rfl) (by decide) ?_
          refine zg_goto (tgt := 7) zd_Ballot_choice_42 (by decide) ?_
          first | (rw [if_pos (by omega)] at ih; exact ih) | (rw [if_neg (by omega)] at ih; exact ih)
  exact key 4 0 (by omega)
end ZT2
end
