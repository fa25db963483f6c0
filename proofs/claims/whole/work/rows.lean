section
-- ===== PART A: goes FIRST, ahead of the names: the tables' words, and 'selects' of the private methods out of them =====
/-- a private method of a class that the tables say can be made, by its rows of tables_1 -/
def lw_okq (q : MethodName × Nat) : Prop := (q.1.cls ≠ "java/lang/invoke/MethodHandle" ∧ q.1.cls ≠ "java/lang/invoke/VarHandle") ∧ Cond.instantiable q.1.cls q.2 ∈ tables_1 ∧ Cond.privateMethod q.1 ∈ tables_1 ∧ Cond.instanceMethod q.1 ∈ tables_1
theorem lw_p0 : lw_okq (⟨"SurrogateTree", "startAnew", "()V"⟩, 13) := ⟨⟨by decide +kernel, by decide +kernel⟩, List.mem_of_getElem? (i := 16) (by decide +kernel), List.mem_of_getElem? (i := 266) (by decide +kernel), List.mem_of_getElem? (i := 267) (by decide +kernel)⟩
theorem lw_p1 : lw_okq (⟨"SurrogateTree", "openNode", "(II)V"⟩, 13) := ⟨⟨by decide +kernel, by decide +kernel⟩, List.mem_of_getElem? (i := 16) (by decide +kernel), List.mem_of_getElem? (i := 275) (by decide +kernel), List.mem_of_getElem? (i := 276) (by decide +kernel)⟩
theorem lw_p2 : lw_okq (⟨"SurrogateTree$Table", "isFair", "(I)Z"⟩, 4) := ⟨⟨by decide +kernel, by decide +kernel⟩, List.mem_of_getElem? (i := 24) (by decide +kernel), List.mem_of_getElem? (i := 366) (by decide +kernel), List.mem_of_getElem? (i := 367) (by decide +kernel)⟩
theorem lw_p3 : lw_okq (⟨"SurrogateTree", "makeTurn", "(I)V"⟩, 13) := ⟨⟨by decide +kernel, by decide +kernel⟩, List.mem_of_getElem? (i := 16) (by decide +kernel), List.mem_of_getElem? (i := 398) (by decide +kernel), List.mem_of_getElem? (i := 399) (by decide +kernel)⟩
theorem lw_p4 : lw_okq (⟨"SurrogateTree$Limits", "insert", "(I)V"⟩, 2) := ⟨⟨by decide +kernel, by decide +kernel⟩, List.mem_of_getElem? (i := 185) (by decide +kernel), List.mem_of_getElem? (i := 423) (by decide +kernel), List.mem_of_getElem? (i := 424) (by decide +kernel)⟩
theorem lw_p5 : lw_okq (⟨"SurrogateTree$SplitSearch", "weighSides", "(LSurrogateTree$Table;II)V"⟩, 6) := ⟨⟨by decide +kernel, by decide +kernel⟩, List.mem_of_getElem? (i := 179) (by decide +kernel), List.mem_of_getElem? (i := 446) (by decide +kernel), List.mem_of_getElem? (i := 447) (by decide +kernel)⟩
theorem lw_p6 : lw_okq (⟨"SurrogateTree$SplitSearch", "measure", "(I)V"⟩, 6) := ⟨⟨by decide +kernel, by decide +kernel⟩, List.mem_of_getElem? (i := 179) (by decide +kernel), List.mem_of_getElem? (i := 452) (by decide +kernel), List.mem_of_getElem? (i := 453) (by decide +kernel)⟩
theorem lw_p7 : lw_okq (⟨"SurrogateTree$SplitSearch", "measureSquares", "()V"⟩, 6) := ⟨⟨by decide +kernel, by decide +kernel⟩, List.mem_of_getElem? (i := 179) (by decide +kernel), List.mem_of_getElem? (i := 456) (by decide +kernel), List.mem_of_getElem? (i := 457) (by decide +kernel)⟩
theorem lw_p8 : lw_okq (⟨"SurrogateTree$SplitSearch", "measureMajorities", "()V"⟩, 6) := ⟨⟨by decide +kernel, by decide +kernel⟩, List.mem_of_getElem? (i := 179) (by decide +kernel), List.mem_of_getElem? (i := 460) (by decide +kernel), List.mem_of_getElem? (i := 461) (by decide +kernel)⟩
theorem lw_p9 : lw_okq (⟨"SurrogateTree$SplitSearch", "measureDistance", "()V"⟩, 6) := ⟨⟨by decide +kernel, by decide +kernel⟩, List.mem_of_getElem? (i := 179) (by decide +kernel), List.mem_of_getElem? (i := 465) (by decide +kernel), List.mem_of_getElem? (i := 466) (by decide +kernel)⟩
theorem lw_p10 : lw_okq (⟨"SurrogateTree$SplitSearch", "offer", "(LSurrogateTree$Node;II)V"⟩, 6) := ⟨⟨by decide +kernel, by decide +kernel⟩, List.mem_of_getElem? (i := 179) (by decide +kernel), List.mem_of_getElem? (i := 472) (by decide +kernel), List.mem_of_getElem? (i := 473) (by decide +kernel)⟩
theorem lw_p11 : lw_okq (⟨"SurrogateTree$StandInSearch", "findAt", "(LSurrogateTree$Table;LSurrogateTree$Node;I)Z"⟩, 2) := ⟨⟨by decide +kernel, by decide +kernel⟩, List.mem_of_getElem? (i := 219) (by decide +kernel), List.mem_of_getElem? (i := 488) (by decide +kernel), List.mem_of_getElem? (i := 489) (by decide +kernel)⟩
theorem lw_p12 : lw_okq (⟨"SurrogateTree$StandInSearch", "offer", "(IZI)V"⟩, 2) := ⟨⟨by decide +kernel, by decide +kernel⟩, List.mem_of_getElem? (i := 219) (by decide +kernel), List.mem_of_getElem? (i := 499) (by decide +kernel), List.mem_of_getElem? (i := 500) (by decide +kernel)⟩
theorem lw_p13 : lw_okq (⟨"SurrogateTree", "endOf", "([I)I"⟩, 13) := ⟨⟨by decide +kernel, by decide +kernel⟩, List.mem_of_getElem? (i := 16) (by decide +kernel), List.mem_of_getElem? (i := 570) (by decide +kernel), List.mem_of_getElem? (i := 571) (by decide +kernel)⟩
theorem lw_p14 : lw_okq (⟨"SurrogateTree$Cutter", "findWeakest", "([LSurrogateTree$Node;)Z"⟩, 6) := ⟨⟨by decide +kernel, by decide +kernel⟩, List.mem_of_getElem? (i := 236) (by decide +kernel), List.mem_of_getElem? (i := 604) (by decide +kernel), List.mem_of_getElem? (i := 605) (by decide +kernel)⟩
theorem lw_p15 : lw_okq (⟨"SurrogateTreeModel", "anew", "()V"⟩, 34) := ⟨⟨by decide +kernel, by decide +kernel⟩, List.mem_of_getElem? (i := 632) (by decide +kernel), List.mem_of_getElem? (i := 638) (by decide +kernel), List.mem_of_getElem? (i := 639) (by decide +kernel)⟩
def lw_privs_1 : List (MethodName × Nat) := [(⟨"SurrogateTree", "startAnew", "()V"⟩, 13), (⟨"SurrogateTree", "openNode", "(II)V"⟩, 13), (⟨"SurrogateTree$Table", "isFair", "(I)Z"⟩, 4), (⟨"SurrogateTree", "makeTurn", "(I)V"⟩, 13), (⟨"SurrogateTree$Limits", "insert", "(I)V"⟩, 2), (⟨"SurrogateTree$SplitSearch", "weighSides", "(LSurrogateTree$Table;II)V"⟩, 6), (⟨"SurrogateTree$SplitSearch", "measure", "(I)V"⟩, 6), (⟨"SurrogateTree$SplitSearch", "measureSquares", "()V"⟩, 6), (⟨"SurrogateTree$SplitSearch", "measureMajorities", "()V"⟩, 6), (⟨"SurrogateTree$SplitSearch", "measureDistance", "()V"⟩, 6), (⟨"SurrogateTree$SplitSearch", "offer", "(LSurrogateTree$Node;II)V"⟩, 6), (⟨"SurrogateTree$StandInSearch", "findAt", "(LSurrogateTree$Table;LSurrogateTree$Node;I)Z"⟩, 2), (⟨"SurrogateTree$StandInSearch", "offer", "(IZI)V"⟩, 2), (⟨"SurrogateTree", "endOf", "([I)I"⟩, 13), (⟨"SurrogateTree$Cutter", "findWeakest", "([LSurrogateTree$Node;)Z"⟩, 6), (⟨"SurrogateTreeModel", "anew", "()V"⟩, 34)]
theorem lw_r1 : ∀ q ∈ lw_privs_1, lw_okq q := List.forall_mem_cons.mpr ⟨lw_p0, List.forall_mem_cons.mpr ⟨lw_p1, List.forall_mem_cons.mpr ⟨lw_p2, List.forall_mem_cons.mpr ⟨lw_p3, List.forall_mem_cons.mpr ⟨lw_p4, List.forall_mem_cons.mpr ⟨lw_p5, List.forall_mem_cons.mpr ⟨lw_p6, List.forall_mem_cons.mpr ⟨lw_p7, List.forall_mem_cons.mpr ⟨lw_p8, List.forall_mem_cons.mpr ⟨lw_p9, List.forall_mem_cons.mpr ⟨lw_p10, List.forall_mem_cons.mpr ⟨lw_p11, List.forall_mem_cons.mpr ⟨lw_p12, List.forall_mem_cons.mpr ⟨lw_p13, List.forall_mem_cons.mpr ⟨lw_p14, List.forall_mem_cons.mpr ⟨lw_p15, fun _ h => absurd h List.not_mem_nil⟩⟩⟩⟩⟩⟩⟩⟩⟩⟩⟩⟩⟩⟩⟩⟩
theorem lw_p16 : lw_okq (⟨"SurrogateTreeModel", "waiting", "()I"⟩, 34) := ⟨⟨by decide +kernel, by decide +kernel⟩, List.mem_of_getElem? (i := 632) (by decide +kernel), List.mem_of_getElem? (i := 774) (by decide +kernel), List.mem_of_getElem? (i := 775) (by decide +kernel)⟩
theorem lw_p17 : lw_okq (⟨"SurrogateTreeModel", "turn", "(I)V"⟩, 34) := ⟨⟨by decide +kernel, by decide +kernel⟩, List.mem_of_getElem? (i := 632) (by decide +kernel), List.mem_of_getElem? (i := 778) (by decide +kernel), List.mem_of_getElem? (i := 779) (by decide +kernel)⟩
theorem lw_p18 : lw_okq (⟨"SurrogateTreeModel", "seek", "(I)Z"⟩, 34) := ⟨⟨by decide +kernel, by decide +kernel⟩, List.mem_of_getElem? (i := 632) (by decide +kernel), List.mem_of_getElem? (i := 785) (by decide +kernel), List.mem_of_getElem? (i := 786) (by decide +kernel)⟩
theorem lw_p19 : lw_okq (⟨"SurrogateTreeModel", "present", "(II)I"⟩, 34) := ⟨⟨by decide +kernel, by decide +kernel⟩, List.mem_of_getElem? (i := 632) (by decide +kernel), List.mem_of_getElem? (i := 789) (by decide +kernel), List.mem_of_getElem? (i := 790) (by decide +kernel)⟩
theorem lw_p20 : lw_okq (⟨"SurrogateTreeModel", "next", "(IIII)Z"⟩, 34) := ⟨⟨by decide +kernel, by decide +kernel⟩, List.mem_of_getElem? (i := 632) (by decide +kernel), List.mem_of_getElem? (i := 797) (by decide +kernel), List.mem_of_getElem? (i := 798) (by decide +kernel)⟩
theorem lw_p21 : lw_okq (⟨"SurrogateTreeModel", "between", "(III)I"⟩, 34) := ⟨⟨by decide +kernel, by decide +kernel⟩, List.mem_of_getElem? (i := 632) (by decide +kernel), List.mem_of_getElem? (i := 801) (by decide +kernel), List.mem_of_getElem? (i := 802) (by decide +kernel)⟩
theorem lw_p22 : lw_okq (⟨"SurrogateTreeModel", "upTo", "(III)I"⟩, 34) := ⟨⟨by decide +kernel, by decide +kernel⟩, List.mem_of_getElem? (i := 632) (by decide +kernel), List.mem_of_getElem? (i := 805) (by decide +kernel), List.mem_of_getElem? (i := 806) (by decide +kernel)⟩
theorem lw_p23 : lw_okq (⟨"SurrogateTreeModel", "weigh", "(II)I"⟩, 34) := ⟨⟨by decide +kernel, by decide +kernel⟩, List.mem_of_getElem? (i := 632) (by decide +kernel), List.mem_of_getElem? (i := 809) (by decide +kernel), List.mem_of_getElem? (i := 810) (by decide +kernel)⟩
theorem lw_p24 : lw_okq (⟨"SurrogateTreeModel", "gainOf", "(II)V"⟩, 34) := ⟨⟨by decide +kernel, by decide +kernel⟩, List.mem_of_getElem? (i := 632) (by decide +kernel), List.mem_of_getElem? (i := 813) (by decide +kernel), List.mem_of_getElem? (i := 814) (by decide +kernel)⟩
theorem lw_p25 : lw_okq (⟨"SurrogateTreeModel", "greatest", "(I)I"⟩, 34) := ⟨⟨by decide +kernel, by decide +kernel⟩, List.mem_of_getElem? (i := 632) (by decide +kernel), List.mem_of_getElem? (i := 817) (by decide +kernel), List.mem_of_getElem? (i := 818) (by decide +kernel)⟩
theorem lw_p26 : lw_okq (⟨"SurrogateTreeModel", "classIn", "(I)I"⟩, 34) := ⟨⟨by decide +kernel, by decide +kernel⟩, List.mem_of_getElem? (i := 632) (by decide +kernel), List.mem_of_getElem? (i := 821) (by decide +kernel), List.mem_of_getElem? (i := 822) (by decide +kernel)⟩
theorem lw_p27 : lw_okq (⟨"SurrogateTreeModel", "goes", "(IIII)I"⟩, 34) := ⟨⟨by decide +kernel, by decide +kernel⟩, List.mem_of_getElem? (i := 632) (by decide +kernel), List.mem_of_getElem? (i := 825) (by decide +kernel), List.mem_of_getElem? (i := 826) (by decide +kernel)⟩
theorem lw_p28 : lw_okq (⟨"SurrogateTreeModel", "standIns", "(I)V"⟩, 34) := ⟨⟨by decide +kernel, by decide +kernel⟩, List.mem_of_getElem? (i := 632) (by decide +kernel), List.mem_of_getElem? (i := 829) (by decide +kernel), List.mem_of_getElem? (i := 830) (by decide +kernel)⟩
theorem lw_p29 : lw_okq (⟨"SurrogateTreeModel", "standIn", "(II)Z"⟩, 34) := ⟨⟨by decide +kernel, by decide +kernel⟩, List.mem_of_getElem? (i := 632) (by decide +kernel), List.mem_of_getElem? (i := 833) (by decide +kernel), List.mem_of_getElem? (i := 834) (by decide +kernel)⟩
theorem lw_p30 : lw_okq (⟨"SurrogateTreeModel", "consider", "(III)V"⟩, 34) := ⟨⟨by decide +kernel, by decide +kernel⟩, List.mem_of_getElem? (i := 632) (by decide +kernel), List.mem_of_getElem? (i := 837) (by decide +kernel), List.mem_of_getElem? (i := 838) (by decide +kernel)⟩
theorem lw_p31 : lw_okq (⟨"SurrogateTreeModel", "findErrors", "()V"⟩, 34) := ⟨⟨by decide +kernel, by decide +kernel⟩, List.mem_of_getElem? (i := 632) (by decide +kernel), List.mem_of_getElem? (i := 845) (by decide +kernel), List.mem_of_getElem? (i := 846) (by decide +kernel)⟩
def lw_privs_2 : List (MethodName × Nat) := [(⟨"SurrogateTreeModel", "waiting", "()I"⟩, 34), (⟨"SurrogateTreeModel", "turn", "(I)V"⟩, 34), (⟨"SurrogateTreeModel", "seek", "(I)Z"⟩, 34), (⟨"SurrogateTreeModel", "present", "(II)I"⟩, 34), (⟨"SurrogateTreeModel", "next", "(IIII)Z"⟩, 34), (⟨"SurrogateTreeModel", "between", "(III)I"⟩, 34), (⟨"SurrogateTreeModel", "upTo", "(III)I"⟩, 34), (⟨"SurrogateTreeModel", "weigh", "(II)I"⟩, 34), (⟨"SurrogateTreeModel", "gainOf", "(II)V"⟩, 34), (⟨"SurrogateTreeModel", "greatest", "(I)I"⟩, 34), (⟨"SurrogateTreeModel", "classIn", "(I)I"⟩, 34), (⟨"SurrogateTreeModel", "goes", "(IIII)I"⟩, 34), (⟨"SurrogateTreeModel", "standIns", "(I)V"⟩, 34), (⟨"SurrogateTreeModel", "standIn", "(II)Z"⟩, 34), (⟨"SurrogateTreeModel", "consider", "(III)V"⟩, 34), (⟨"SurrogateTreeModel", "findErrors", "()V"⟩, 34)]
theorem lw_r2 : ∀ q ∈ lw_privs_2, lw_okq q := List.forall_mem_cons.mpr ⟨lw_p16, List.forall_mem_cons.mpr ⟨lw_p17, List.forall_mem_cons.mpr ⟨lw_p18, List.forall_mem_cons.mpr ⟨lw_p19, List.forall_mem_cons.mpr ⟨lw_p20, List.forall_mem_cons.mpr ⟨lw_p21, List.forall_mem_cons.mpr ⟨lw_p22, List.forall_mem_cons.mpr ⟨lw_p23, List.forall_mem_cons.mpr ⟨lw_p24, List.forall_mem_cons.mpr ⟨lw_p25, List.forall_mem_cons.mpr ⟨lw_p26, List.forall_mem_cons.mpr ⟨lw_p27, List.forall_mem_cons.mpr ⟨lw_p28, List.forall_mem_cons.mpr ⟨lw_p29, List.forall_mem_cons.mpr ⟨lw_p30, List.forall_mem_cons.mpr ⟨lw_p31, fun _ h => absurd h List.not_mem_nil⟩⟩⟩⟩⟩⟩⟩⟩⟩⟩⟩⟩⟩⟩⟩⟩
theorem lw_p32 : lw_okq (⟨"SurrogateTreeModel", "errorIn", "(I)I"⟩, 34) := ⟨⟨by decide +kernel, by decide +kernel⟩, List.mem_of_getElem? (i := 632) (by decide +kernel), List.mem_of_getElem? (i := 849) (by decide +kernel), List.mem_of_getElem? (i := 850) (by decide +kernel)⟩
theorem lw_p33 : lw_okq (⟨"SurrogateTreeModel", "shape", "(II)I"⟩, 34) := ⟨⟨by decide +kernel, by decide +kernel⟩, List.mem_of_getElem? (i := 632) (by decide +kernel), List.mem_of_getElem? (i := 853) (by decide +kernel), List.mem_of_getElem? (i := 854) (by decide +kernel)⟩
theorem lw_p34 : lw_okq (⟨"SurrogateTreeModel", "breaksAt", "(II)Z"⟩, 34) := ⟨⟨by decide +kernel, by decide +kernel⟩, List.mem_of_getElem? (i := 632) (by decide +kernel), List.mem_of_getElem? (i := 899) (by decide +kernel), List.mem_of_getElem? (i := 900) (by decide +kernel)⟩
theorem lw_p35 : lw_okq (⟨"SurrogateTreeModel", "insert", "(II)V"⟩, 34) := ⟨⟨by decide +kernel, by decide +kernel⟩, List.mem_of_getElem? (i := 632) (by decide +kernel), List.mem_of_getElem? (i := 903) (by decide +kernel), List.mem_of_getElem? (i := 904) (by decide +kernel)⟩
def lw_privs_3 : List (MethodName × Nat) := [(⟨"SurrogateTreeModel", "errorIn", "(I)I"⟩, 34), (⟨"SurrogateTreeModel", "shape", "(II)I"⟩, 34), (⟨"SurrogateTreeModel", "breaksAt", "(II)Z"⟩, 34), (⟨"SurrogateTreeModel", "insert", "(II)V"⟩, 34)]
theorem lw_r3 : ∀ q ∈ lw_privs_3, lw_okq q := List.forall_mem_cons.mpr ⟨lw_p32, List.forall_mem_cons.mpr ⟨lw_p33, List.forall_mem_cons.mpr ⟨lw_p34, List.forall_mem_cons.mpr ⟨lw_p35, fun _ h => absurd h List.not_mem_nil⟩⟩⟩⟩
def lw_privs : List (MethodName × Nat) := lw_privs_1 ++ (lw_privs_2 ++ (lw_privs_3))
def lw_tbl : List Cond := k2_sels lw_privs ++ tables_1
theorem lw_privs_ok : ∀ q ∈ lw_privs, lw_okq q := by
  show ∀ q ∈ lw_privs_1 ++ (lw_privs_2 ++ (lw_privs_3)), lw_okq q
  exact List.forall_mem_append.mpr ⟨lw_r1, List.forall_mem_append.mpr ⟨lw_r2, lw_r3⟩⟩
end
section
/-! names of this claim (written by wip/gen/names.py out of the Statement) -/
def zn_TS : List Cond := lw_tbl.filter goodWord
theorem zn_good : ∀ w ∈ zn_TS, (w.onTables && w.keeps) = true ∨ ∃ ty, w = .arrayClass ty := fun w h => good_of_word (List.mem_filter.mp h).2
theorem zn_in {w : Cond} (i : Nat) (h : tables_1[i]? = some w) (g : goodWord w = true) : w ∈ zn_TS := List.mem_filter.mpr ⟨List.mem_append_right _ (List.mem_of_getElem? h), g⟩
theorem zn_is {y : MethodName} {n : Nat} (i : Nat) (h : lw_privs[i]? = some (y, n)) : Cond.selects y.cls y y ∈ zn_TS := List.mem_filter.mpr ⟨List.mem_append_left _ (List.mem_map.mpr ⟨(y, n), List.mem_of_getElem? h, rfl⟩), rfl⟩
abbrev zn_nc : Nat := 12
def zn_C : Nat → String
  | 0 => "SurrogateTree"
  | 1 => "SurrogateTree$Table"
  | 2 => "SurrogateTree$Ballot"
  | 3 => "SurrogateTree$Node"
  | 4 => "SurrogateTree$Fraction"
  | 5 => "SurrogateTree$StandIn"
  | 6 => "SurrogateTree$Shape"
  | 7 => "SurrogateTree$SplitSearch"
  | 8 => "SurrogateTree$Limits"
  | 9 => "SurrogateTree$StandInSearch"
  | 10 => "SurrogateTree$Cutter"
  | _ => "SurrogateTreeModel"
def zn_n : Nat → Nat
  | 0 => 13
  | 1 => 4
  | 2 => 1
  | 3 => 9
  | 4 => 2
  | 5 => 4
  | 6 => 1
  | 7 => 6
  | 8 => 2
  | 9 => 2
  | 10 => 6
  | _ => 34
def zn_T0 : u_T := fun k => match k with
  | 0 => ("SurrogateTree", "table", "LSurrogateTree$Table;", true)
  | 1 => ("SurrogateTree", "ballot", "LSurrogateTree$Ballot;", true)
  | 2 => ("SurrogateTree", "nodes", "[LSurrogateTree$Node;", true)
  | 3 => ("SurrogateTree", "grown", "LSurrogateTree$Shape;", true)
  | 4 => ("SurrogateTree", "trimmed", "LSurrogateTree$Shape;", true)
  | 5 => ("SurrogateTree", "splitSearch", "LSurrogateTree$SplitSearch;", true)
  | 6 => ("SurrogateTree", "standInSearch", "LSurrogateTree$StandInSearch;", true)
  | 7 => ("SurrogateTree", "cutter", "LSurrogateTree$Cutter;", true)
  | 8 => ("SurrogateTree", "asked", "[I", true)
  | 9 => ("SurrogateTree", "shown", "LSurrogateTree$Shape;", false)
  | 10 => ("SurrogateTree", "criterion", "I", false)
  | 11 => ("SurrogateTree", "depthLimit", "I", false)
  | _ => ("SurrogateTree", "leafSize", "I", false)
def zn_ty0 : Nat → FieldType := fun k => match k with
  | 0 => .object "SurrogateTree$Table"
  | 1 => .object "SurrogateTree$Ballot"
  | 2 => .array (.object "SurrogateTree$Node")
  | 3 => .object "SurrogateTree$Shape"
  | 4 => .object "SurrogateTree$Shape"
  | 5 => .object "SurrogateTree$SplitSearch"
  | 6 => .object "SurrogateTree$StandInSearch"
  | 7 => .object "SurrogateTree$Cutter"
  | 8 => .array .int
  | 9 => .object "SurrogateTree$Shape"
  | 10 => .int
  | 11 => .int
  | _ => .int
def zn_T1 : u_T := fun k => match k with
  | 0 => ("SurrogateTree$Table", "values", "[[I", true)
  | 1 => ("SurrogateTree$Table", "classes", "[I", true)
  | 2 => ("SurrogateTree$Table", "weights", "[I", true)
  | _ => ("SurrogateTree$Table", "size", "I", false)
def zn_ty1 : Nat → FieldType := fun k => match k with
  | 0 => .array (.array .int)
  | 1 => .array .int
  | 2 => .array .int
  | _ => .int
def zn_T2 : u_T := fun k => match k with
  | _ => ("SurrogateTree$Ballot", "counts", "[[I", true)
def zn_ty2 : Nat → FieldType := fun k => match k with
  | _ => .array (.array .int)
def zn_T3 : u_T := fun k => match k with
  | 0 => ("SurrogateTree$Node", "rows", "I", false)
  | 1 => ("SurrogateTree$Node", "majority", "I", false)
  | 2 => ("SurrogateTree$Node", "strays", "I", false)
  | 3 => ("SurrogateTree$Node", "feature", "I", false)
  | 4 => ("SurrogateTree$Node", "limit", "I", false)
  | 5 => ("SurrogateTree$Node", "worth", "LSurrogateTree$Fraction;", true)
  | 6 => ("SurrogateTree$Node", "leansLeft", "Z", false)
  | 7 => ("SurrogateTree$Node", "standIns", "[LSurrogateTree$StandIn;", true)
  | _ => ("SurrogateTree$Node", "standInCount", "I", false)
def zn_ty3 : Nat → FieldType := fun k => match k with
  | 0 => .int
  | 1 => .int
  | 2 => .int
  | 3 => .int
  | 4 => .int
  | 5 => .object "SurrogateTree$Fraction"
  | 6 => .boolean
  | 7 => .array (.object "SurrogateTree$StandIn")
  | _ => .int
def zn_T4 : u_T := fun k => match k with
  | 0 => ("SurrogateTree$Fraction", "numerator", "J", false)
  | _ => ("SurrogateTree$Fraction", "denominator", "J", false)
def zn_ty4 : Nat → FieldType := fun k => match k with
  | 0 => .long
  | _ => .long
def zn_T5 : u_T := fun k => match k with
  | 0 => ("SurrogateTree$StandIn", "feature", "I", false)
  | 1 => ("SurrogateTree$StandIn", "limit", "I", false)
  | 2 => ("SurrogateTree$StandIn", "turned", "Z", false)
  | _ => ("SurrogateTree$StandIn", "agreement", "I", false)
def zn_ty5 : Nat → FieldType := fun k => match k with
  | 0 => .int
  | 1 => .int
  | 2 => .boolean
  | _ => .int
def zn_T6 : u_T := fun k => match k with
  | _ => ("SurrogateTree$Shape", "kinds", "[I", true)
def zn_ty6 : Nat → FieldType := fun k => match k with
  | _ => .array .int
def zn_T7 : u_T := fun k => match k with
  | 0 => ("SurrogateTree$SplitSearch", "limits", "LSurrogateTree$Limits;", true)
  | 1 => ("SurrogateTree$SplitSearch", "left", "[I", true)
  | 2 => ("SurrogateTree$SplitSearch", "right", "[I", true)
  | 3 => ("SurrogateTree$SplitSearch", "leftWeight", "I", false)
  | 4 => ("SurrogateTree$SplitSearch", "rightWeight", "I", false)
  | _ => ("SurrogateTree$SplitSearch", "candidate", "LSurrogateTree$Fraction;", true)
def zn_ty7 : Nat → FieldType := fun k => match k with
  | 0 => .object "SurrogateTree$Limits"
  | 1 => .array .int
  | 2 => .array .int
  | 3 => .int
  | 4 => .int
  | _ => .object "SurrogateTree$Fraction"
def zn_T8 : u_T := fun k => match k with
  | 0 => ("SurrogateTree$Limits", "sorted", "[I", true)
  | _ => ("SurrogateTree$Limits", "distinct", "I", false)
def zn_ty8 : Nat → FieldType := fun k => match k with
  | 0 => .array .int
  | _ => .int
def zn_T9 : u_T := fun k => match k with
  | 0 => ("SurrogateTree$StandInSearch", "limits", "LSurrogateTree$Limits;", true)
  | _ => ("SurrogateTree$StandInSearch", "best", "LSurrogateTree$StandIn;", true)
def zn_ty9 : Nat → FieldType := fun k => match k with
  | 0 => .object "SurrogateTree$Limits"
  | _ => .object "SurrogateTree$StandIn"
def zn_T10 : u_T := fun k => match k with
  | 0 => ("SurrogateTree$Cutter", "found", "LSurrogateTree$Fraction;", true)
  | 1 => ("SurrogateTree$Cutter", "rest", "LSurrogateTree$Shape;", true)
  | 2 => ("SurrogateTree$Cutter", "candidate", "LSurrogateTree$Fraction;", true)
  | 3 => ("SurrogateTree$Cutter", "costs", "[I", true)
  | 4 => ("SurrogateTree$Cutter", "leavesBelow", "[I", true)
  | _ => ("SurrogateTree$Cutter", "straysBelow", "[I", true)
def zn_ty10 : Nat → FieldType := fun k => match k with
  | 0 => .object "SurrogateTree$Fraction"
  | 1 => .object "SurrogateTree$Shape"
  | 2 => .object "SurrogateTree$Fraction"
  | 3 => .array .int
  | 4 => .array .int
  | _ => .array .int
def zn_T11 : u_T := fun k => match k with
  | 0 => ("SurrogateTreeModel", "n", "I", false)
  | 1 => ("SurrogateTreeModel", "value", "[I", false)
  | 2 => ("SurrogateTreeModel", "own", "[I", false)
  | 3 => ("SurrogateTreeModel", "weight", "[I", false)
  | 4 => ("SurrogateTreeModel", "vote", "[I", false)
  | 5 => ("SurrogateTreeModel", "criterion", "I", false)
  | 6 => ("SurrogateTreeModel", "limit", "I", false)
  | 7 => ("SurrogateTreeModel", "leaf", "I", false)
  | 8 => ("SurrogateTreeModel", "state", "[I", false)
  | 9 => ("SurrogateTreeModel", "rows", "[I", false)
  | 10 => ("SurrogateTreeModel", "feature", "[I", false)
  | 11 => ("SurrogateTreeModel", "border", "[I", false)
  | 12 => ("SurrogateTreeModel", "isCut", "Z", false)
  | 13 => ("SurrogateTreeModel", "cutTop", "I", false)
  | 14 => ("SurrogateTreeModel", "cutBottom", "I", false)
  | 15 => ("SurrogateTreeModel", "top", "I", false)
  | 16 => ("SurrogateTreeModel", "bottom", "I", false)
  | 17 => ("SurrogateTreeModel", "bestFeature", "I", false)
  | 18 => ("SurrogateTreeModel", "bestBorder", "I", false)
  | 19 => ("SurrogateTreeModel", "count", "I", false)
  | 20 => ("SurrogateTreeModel", "standFeature", "[I", false)
  | 21 => ("SurrogateTreeModel", "standBorder", "[I", false)
  | 22 => ("SurrogateTreeModel", "standTurned", "[I", false)
  | 23 => ("SurrogateTreeModel", "standAgreed", "[I", false)
  | 24 => ("SurrogateTreeModel", "oneBorder", "I", false)
  | 25 => ("SurrogateTreeModel", "oneTurned", "I", false)
  | 26 => ("SurrogateTreeModel", "oneAgreed", "I", false)
  | 27 => ("SurrogateTreeModel", "errors", "[I", false)
  | 28 => ("SurrogateTreeModel", "cost", "[J", false)
  | 29 => ("SurrogateTreeModel", "leaves", "[I", false)
  | 30 => ("SurrogateTreeModel", "stays", "[Z", false)
  | 31 => ("SurrogateTreeModel", "breaks", "I", false)
  | 32 => ("SurrogateTreeModel", "breakTop", "[I", false)
  | _ => ("SurrogateTreeModel", "breakBottom", "[I", false)
def zn_ty11 : Nat → FieldType := fun k => match k with
  | 0 => .int
  | 1 => .array .int
  | 2 => .array .int
  | 3 => .array .int
  | 4 => .array .int
  | 5 => .int
  | 6 => .int
  | 7 => .int
  | 8 => .array .int
  | 9 => .array .int
  | 10 => .array .int
  | 11 => .array .int
  | 12 => .boolean
  | 13 => .int
  | 14 => .int
  | 15 => .int
  | 16 => .int
  | 17 => .int
  | 18 => .int
  | 19 => .int
  | 20 => .array .int
  | 21 => .array .int
  | 22 => .array .int
  | 23 => .array .int
  | 24 => .int
  | 25 => .int
  | 26 => .int
  | 27 => .array .int
  | 28 => .array .long
  | 29 => .array .int
  | 30 => .array .boolean
  | 31 => .int
  | 32 => .array .int
  | _ => .array .int
def zn_T : Nat → u_T
  | 0 => zn_T0
  | 1 => zn_T1
  | 2 => zn_T2
  | 3 => zn_T3
  | 4 => zn_T4
  | 5 => zn_T5
  | 6 => zn_T6
  | 7 => zn_T7
  | 8 => zn_T8
  | 9 => zn_T9
  | 10 => zn_T10
  | _ => zn_T11
def zn_ty : Nat → Nat → FieldType
  | 0 => zn_ty0
  | 1 => zn_ty1
  | 2 => zn_ty2
  | 3 => zn_ty3
  | 4 => zn_ty4
  | 5 => zn_ty5
  | 6 => zn_ty6
  | 7 => zn_ty7
  | 8 => zn_ty8
  | 9 => zn_ty9
  | 10 => zn_ty10
  | _ => zn_ty11
def zn_cl : List vw_C := (List.range zn_nc).map (fun c => (zn_C c, zn_T c, zn_n c))
theorem zn_cl_at (ci : Nat) (h : ci < zn_nc) : zn_cl[ci]? = some (zn_C ci, zn_T ci, zn_n ci) := by simp [zn_cl, List.getElem?_map, List.getElem?_range h]
def zn_ra : List FieldType := [.object "SurrogateTree$Node", .object "SurrogateTree$StandIn", .array .int]
theorem zw_0 : Cond.initialized "SurrogateTreeLaw" ∈ zn_TS := zn_in 0 (by decide +kernel) rfl
theorem zw_1 : Cond.initialized "SurrogateTree" ∈ zn_TS := zn_in 1 (by decide +kernel) rfl
theorem zw_2 : Cond.initialized "SurrogateTree$Table" ∈ zn_TS := zn_in 2 (by decide +kernel) rfl
theorem zw_3 : Cond.initialized "SurrogateTree$Ballot" ∈ zn_TS := zn_in 3 (by decide +kernel) rfl
theorem zw_4 : Cond.initialized "SurrogateTree$Node" ∈ zn_TS := zn_in 4 (by decide +kernel) rfl
theorem zw_5 : Cond.initialized "SurrogateTree$Fraction" ∈ zn_TS := zn_in 5 (by decide +kernel) rfl
theorem zw_6 : Cond.initialized "SurrogateTree$StandIn" ∈ zn_TS := zn_in 6 (by decide +kernel) rfl
theorem zw_7 : Cond.initialized "SurrogateTree$Shape" ∈ zn_TS := zn_in 7 (by decide +kernel) rfl
theorem zw_8 : Cond.initialized "SurrogateTree$SplitSearch" ∈ zn_TS := zn_in 8 (by decide +kernel) rfl
theorem zw_9 : Cond.initialized "SurrogateTree$Limits" ∈ zn_TS := zn_in 9 (by decide +kernel) rfl
theorem zw_10 : Cond.initialized "SurrogateTree$StandInSearch" ∈ zn_TS := zn_in 10 (by decide +kernel) rfl
theorem zw_11 : Cond.initialized "SurrogateTree$Cutter" ∈ zn_TS := zn_in 11 (by decide +kernel) rfl
theorem zw_12 : Cond.initialized "SurrogateTreeModel" ∈ zn_TS := zn_in 12 (by decide +kernel) rfl
theorem zw_13 : Cond.initialized "java/lang/Integer" ∈ zn_TS := zn_in 13 (by decide +kernel) rfl
theorem zw_14 : Cond.initialized "java/lang/Math" ∈ zn_TS := zn_in 14 (by decide +kernel) rfl
theorem zw_15 : Cond.classLink "SurrogateTreeLaw" 7 "SurrogateTree" ∈ zn_TS := zn_in 15 (by decide +kernel) rfl
theorem zw_16 : Cond.instantiable "SurrogateTree" 13 ∈ zn_TS := zn_in 16 (by decide +kernel) rfl
theorem zw_17 : Cond.methodLink "SurrogateTreeLaw" 9 ⟨"SurrogateTree", "<init>", "()V"⟩ ∈ zn_TS := zn_in 17 (by decide +kernel) rfl
theorem zw_18 : Cond.instanceMethod ⟨"SurrogateTree", "<init>", "()V"⟩ ∈ zn_TS := zn_in 18 (by decide +kernel) rfl
theorem zw_19 : Cond.code ⟨"SurrogateTree", "<init>", "()V"⟩ prog_1_method_1_code 2 none ∈ zn_TS := zn_in 19 (by decide +kernel) rfl
theorem zw_20 : Cond.methodLink "SurrogateTree" 1 ⟨"java/lang/Object", "<init>", "()V"⟩ ∈ zn_TS := zn_in 20 (by decide +kernel) rfl
theorem zw_21 : Cond.instanceMethod ⟨"java/lang/Object", "<init>", "()V"⟩ ∈ zn_TS := zn_in 21 (by decide +kernel) rfl
theorem zw_22 : Cond.code ⟨"java/lang/Object", "<init>", "()V"⟩ object_method_1_code 1 none ∈ zn_TS := zn_in 22 (by decide +kernel) rfl
theorem zw_23 : Cond.classLink "SurrogateTree" 7 "SurrogateTree$Table" ∈ zn_TS := zn_in 23 (by decide +kernel) rfl
theorem zw_24 : Cond.instantiable "SurrogateTree$Table" 4 ∈ zn_TS := zn_in 24 (by decide +kernel) rfl
theorem zw_25 : Cond.methodLink "SurrogateTree" 9 ⟨"SurrogateTree$Table", "<init>", "()V"⟩ ∈ zn_TS := zn_in 25 (by decide +kernel) rfl
theorem zw_26 : Cond.instanceMethod ⟨"SurrogateTree$Table", "<init>", "()V"⟩ ∈ zn_TS := zn_in 26 (by decide +kernel) rfl
theorem zw_27 : Cond.code ⟨"SurrogateTree$Table", "<init>", "()V"⟩ prog_11_method_1_code 1 none ∈ zn_TS := zn_in 27 (by decide +kernel) rfl
theorem zw_28 : Cond.methodLink "SurrogateTree$Table" 3 ⟨"java/lang/Object", "<init>", "()V"⟩ ∈ zn_TS := zn_in 28 (by decide +kernel) rfl
theorem zw_29 : Cond.classLink "SurrogateTree$Table" 9 "[[I" ∈ zn_TS := zn_in 29 (by decide +kernel) rfl
theorem zw_31 : Cond.fieldLink "SurrogateTree$Table" 11 "SurrogateTree$Table" "values" "[[I" ∈ zn_TS := zn_in 31 (by decide +kernel) rfl
theorem zw_32 : Cond.fieldLink "SurrogateTree$Limits" 28 "SurrogateTree$Table" "values" "[[I" ∈ zn_TS := zn_in 32 (by decide +kernel) rfl
theorem zw_33 : Cond.fieldLink "SurrogateTree$Node" 78 "SurrogateTree$Table" "values" "[[I" ∈ zn_TS := zn_in 33 (by decide +kernel) rfl
theorem zw_34 : Cond.fieldLink "SurrogateTree" 194 "SurrogateTree$Table" "values" "[[I" ∈ zn_TS := zn_in 34 (by decide +kernel) rfl
theorem zw_35 : Cond.fieldLink "SurrogateTree$Table" 16 "SurrogateTree$Table" "classes" "[I" ∈ zn_TS := zn_in 35 (by decide +kernel) rfl
theorem zw_36 : Cond.fieldLink "SurrogateTree" 208 "SurrogateTree$Table" "classes" "[I" ∈ zn_TS := zn_in 36 (by decide +kernel) rfl
theorem zw_37 : Cond.fieldLink "SurrogateTree$Table" 20 "SurrogateTree$Table" "weights" "[I" ∈ zn_TS := zn_in 37 (by decide +kernel) rfl
theorem zw_38 : Cond.fieldLink "SurrogateTree" 113 "SurrogateTree$Table" "weights" "[I" ∈ zn_TS := zn_in 38 (by decide +kernel) rfl
theorem zw_39 : Cond.fieldLink "SurrogateTree$Table" 23 "SurrogateTree$Table" "size" "I" ∈ zn_TS := zn_in 39 (by decide +kernel) rfl
theorem zw_40 : Cond.fieldLink "SurrogateTree$Limits" 19 "SurrogateTree$Table" "size" "I" ∈ zn_TS := zn_in 40 (by decide +kernel) rfl
theorem zw_41 : Cond.fieldLink "SurrogateTree" 82 "SurrogateTree$Table" "size" "I" ∈ zn_TS := zn_in 41 (by decide +kernel) rfl
theorem zw_42 : Cond.fieldLink "SurrogateTree$Node" 71 "SurrogateTree$Table" "size" "I" ∈ zn_TS := zn_in 42 (by decide +kernel) rfl
theorem zw_43 : Cond.laysFinal "SurrogateTree$Table" "SurrogateTree$Table" "values" "[[I" ∈ zn_TS := zn_in 43 (by decide +kernel) rfl
theorem zw_45 : Cond.laysFinal "SurrogateTree$Table" "SurrogateTree$Table" "classes" "[I" ∈ zn_TS := zn_in 45 (by decide +kernel) rfl
theorem zw_47 : Cond.laysFinal "SurrogateTree$Table" "SurrogateTree$Table" "weights" "[I" ∈ zn_TS := zn_in 47 (by decide +kernel) rfl
theorem zw_49 : Cond.lays "SurrogateTree$Table" "SurrogateTree$Table" "size" "I" ∈ zn_TS := zn_in 49 (by decide +kernel) rfl
theorem zw_52 : Cond.arrayClass .int ∈ zn_TS := zn_in 52 (by decide +kernel) rfl
theorem zw_53 : Cond.classLink "SurrogateTree" 16 "SurrogateTree$Ballot" ∈ zn_TS := zn_in 53 (by decide +kernel) rfl
theorem zw_54 : Cond.instantiable "SurrogateTree$Ballot" 1 ∈ zn_TS := zn_in 54 (by decide +kernel) rfl
theorem zw_55 : Cond.methodLink "SurrogateTree" 18 ⟨"SurrogateTree$Ballot", "<init>", "()V"⟩ ∈ zn_TS := zn_in 55 (by decide +kernel) rfl
theorem zw_56 : Cond.instanceMethod ⟨"SurrogateTree$Ballot", "<init>", "()V"⟩ ∈ zn_TS := zn_in 56 (by decide +kernel) rfl
theorem zw_57 : Cond.code ⟨"SurrogateTree$Ballot", "<init>", "()V"⟩ prog_2_method_1_code 1 none ∈ zn_TS := zn_in 57 (by decide +kernel) rfl
theorem zw_58 : Cond.methodLink "SurrogateTree$Ballot" 3 ⟨"java/lang/Object", "<init>", "()V"⟩ ∈ zn_TS := zn_in 58 (by decide +kernel) rfl
theorem zw_59 : Cond.classLink "SurrogateTree$Ballot" 9 "[[I" ∈ zn_TS := zn_in 59 (by decide +kernel) rfl
theorem zw_60 : Cond.fieldLink "SurrogateTree$Ballot" 11 "SurrogateTree$Ballot" "counts" "[[I" ∈ zn_TS := zn_in 60 (by decide +kernel) rfl
theorem zw_61 : Cond.fieldLink "SurrogateTree" 202 "SurrogateTree$Ballot" "counts" "[[I" ∈ zn_TS := zn_in 61 (by decide +kernel) rfl
theorem zw_62 : Cond.laysFinal "SurrogateTree$Ballot" "SurrogateTree$Ballot" "counts" "[[I" ∈ zn_TS := zn_in 62 (by decide +kernel) rfl
theorem zw_65 : Cond.classLink "SurrogateTree" 23 "SurrogateTree$Node" ∈ zn_TS := zn_in 65 (by decide +kernel) rfl
theorem zw_67 : Cond.instantiable "SurrogateTree$Node" 9 ∈ zn_TS := zn_in 67 (by decide +kernel) rfl
theorem zw_68 : Cond.methodLink "SurrogateTree" 29 ⟨"SurrogateTree$Node", "<init>", "()V"⟩ ∈ zn_TS := zn_in 68 (by decide +kernel) rfl
theorem zw_69 : Cond.instanceMethod ⟨"SurrogateTree$Node", "<init>", "()V"⟩ ∈ zn_TS := zn_in 69 (by decide +kernel) rfl
theorem zw_70 : Cond.code ⟨"SurrogateTree$Node", "<init>", "()V"⟩ prog_6_method_1_code 2 none ∈ zn_TS := zn_in 70 (by decide +kernel) rfl
theorem zw_71 : Cond.methodLink "SurrogateTree$Node" 3 ⟨"java/lang/Object", "<init>", "()V"⟩ ∈ zn_TS := zn_in 71 (by decide +kernel) rfl
theorem zw_72 : Cond.classLink "SurrogateTree$Node" 9 "SurrogateTree$Fraction" ∈ zn_TS := zn_in 72 (by decide +kernel) rfl
theorem zw_73 : Cond.instantiable "SurrogateTree$Fraction" 2 ∈ zn_TS := zn_in 73 (by decide +kernel) rfl
theorem zw_74 : Cond.methodLink "SurrogateTree$Node" 11 ⟨"SurrogateTree$Fraction", "<init>", "()V"⟩ ∈ zn_TS := zn_in 74 (by decide +kernel) rfl
theorem zw_75 : Cond.instanceMethod ⟨"SurrogateTree$Fraction", "<init>", "()V"⟩ ∈ zn_TS := zn_in 75 (by decide +kernel) rfl
theorem zw_76 : Cond.code ⟨"SurrogateTree$Fraction", "<init>", "()V"⟩ prog_4_method_1_code 1 none ∈ zn_TS := zn_in 76 (by decide +kernel) rfl
theorem zw_77 : Cond.methodLink "SurrogateTree$Fraction" 1 ⟨"java/lang/Object", "<init>", "()V"⟩ ∈ zn_TS := zn_in 77 (by decide +kernel) rfl
theorem zw_78 : Cond.fieldLink "SurrogateTree$Fraction" 7 "SurrogateTree$Fraction" "numerator" "J" ∈ zn_TS := zn_in 78 (by decide +kernel) rfl
theorem zw_79 : Cond.fieldLink "SurrogateTree$SplitSearch" 84 "SurrogateTree$Fraction" "numerator" "J" ∈ zn_TS := zn_in 79 (by decide +kernel) rfl
theorem zw_80 : Cond.fieldLink "SurrogateTree$Cutter" 62 "SurrogateTree$Fraction" "numerator" "J" ∈ zn_TS := zn_in 80 (by decide +kernel) rfl
theorem zw_81 : Cond.fieldLink "SurrogateTree" 151 "SurrogateTree$Fraction" "numerator" "J" ∈ zn_TS := zn_in 81 (by decide +kernel) rfl
theorem zw_82 : Cond.fieldLink "SurrogateTree$Fraction" 13 "SurrogateTree$Fraction" "denominator" "J" ∈ zn_TS := zn_in 82 (by decide +kernel) rfl
theorem zw_83 : Cond.fieldLink "SurrogateTree$Cutter" 66 "SurrogateTree$Fraction" "denominator" "J" ∈ zn_TS := zn_in 83 (by decide +kernel) rfl
theorem zw_84 : Cond.fieldLink "SurrogateTree" 159 "SurrogateTree$Fraction" "denominator" "J" ∈ zn_TS := zn_in 84 (by decide +kernel) rfl
theorem zw_85 : Cond.lays "SurrogateTree$Fraction" "SurrogateTree$Fraction" "numerator" "J" ∈ zn_TS := zn_in 85 (by decide +kernel) rfl
theorem zw_87 : Cond.lays "SurrogateTree$Fraction" "SurrogateTree$Fraction" "denominator" "J" ∈ zn_TS := zn_in 87 (by decide +kernel) rfl
theorem zw_90 : Cond.classLink "SurrogateTree$Node" 18 "SurrogateTree$StandIn" ∈ zn_TS := zn_in 90 (by decide +kernel) rfl
theorem zw_92 : Cond.instantiable "SurrogateTree$StandIn" 4 ∈ zn_TS := zn_in 92 (by decide +kernel) rfl
theorem zw_94 : Cond.instanceMethod ⟨"SurrogateTree$StandIn", "<init>", "()V"⟩ ∈ zn_TS := zn_in 94 (by decide +kernel) rfl
theorem zw_95 : Cond.code ⟨"SurrogateTree$StandIn", "<init>", "()V"⟩ prog_9_method_1_code 1 none ∈ zn_TS := zn_in 95 (by decide +kernel) rfl
theorem zw_96 : Cond.methodLink "SurrogateTree$StandIn" 1 ⟨"java/lang/Object", "<init>", "()V"⟩ ∈ zn_TS := zn_in 96 (by decide +kernel) rfl
theorem zw_97 : Cond.fieldLink "SurrogateTree$StandIn" 7 "SurrogateTree$StandIn" "feature" "I" ∈ zn_TS := zn_in 97 (by decide +kernel) rfl
theorem zw_98 : Cond.fieldLink "SurrogateTree$StandInSearch" 67 "SurrogateTree$StandIn" "feature" "I" ∈ zn_TS := zn_in 98 (by decide +kernel) rfl
theorem zw_99 : Cond.fieldLink "SurrogateTree$Node" 62 "SurrogateTree$StandIn" "feature" "I" ∈ zn_TS := zn_in 99 (by decide +kernel) rfl
theorem zw_100 : Cond.fieldLink "SurrogateTree$StandIn" 13 "SurrogateTree$StandIn" "limit" "I" ∈ zn_TS := zn_in 100 (by decide +kernel) rfl
theorem zw_101 : Cond.fieldLink "SurrogateTree$StandInSearch" 86 "SurrogateTree$StandIn" "limit" "I" ∈ zn_TS := zn_in 101 (by decide +kernel) rfl
theorem zw_102 : Cond.fieldLink "SurrogateTree" 146 "SurrogateTree$StandIn" "limit" "I" ∈ zn_TS := zn_in 102 (by decide +kernel) rfl
theorem zw_103 : Cond.fieldLink "SurrogateTree$StandIn" 16 "SurrogateTree$StandIn" "turned" "Z" ∈ zn_TS := zn_in 103 (by decide +kernel) rfl
theorem zw_104 : Cond.fieldLink "SurrogateTree$StandInSearch" 87 "SurrogateTree$StandIn" "turned" "Z" ∈ zn_TS := zn_in 104 (by decide +kernel) rfl
theorem zw_105 : Cond.fieldLink "SurrogateTree$StandIn" 20 "SurrogateTree$StandIn" "agreement" "I" ∈ zn_TS := zn_in 105 (by decide +kernel) rfl
theorem zw_106 : Cond.fieldLink "SurrogateTree$StandInSearch" 68 "SurrogateTree$StandIn" "agreement" "I" ∈ zn_TS := zn_in 106 (by decide +kernel) rfl
theorem zw_107 : Cond.fieldLink "SurrogateTree$Node" 48 "SurrogateTree$StandIn" "agreement" "I" ∈ zn_TS := zn_in 107 (by decide +kernel) rfl
theorem zw_108 : Cond.lays "SurrogateTree$StandIn" "SurrogateTree$StandIn" "feature" "I" ∈ zn_TS := zn_in 108 (by decide +kernel) rfl
theorem zw_110 : Cond.lays "SurrogateTree$StandIn" "SurrogateTree$StandIn" "limit" "I" ∈ zn_TS := zn_in 110 (by decide +kernel) rfl
theorem zw_112 : Cond.lays "SurrogateTree$StandIn" "SurrogateTree$StandIn" "turned" "Z" ∈ zn_TS := zn_in 112 (by decide +kernel) rfl
theorem zw_114 : Cond.lays "SurrogateTree$StandIn" "SurrogateTree$StandIn" "agreement" "I" ∈ zn_TS := zn_in 114 (by decide +kernel) rfl
theorem zw_117 : Cond.fieldLink "SurrogateTree$Node" 25 "SurrogateTree$Node" "rows" "I" ∈ zn_TS := zn_in 117 (by decide +kernel) rfl
theorem zw_118 : Cond.fieldLink "SurrogateTree$SplitSearch" 41 "SurrogateTree$Node" "rows" "I" ∈ zn_TS := zn_in 118 (by decide +kernel) rfl
theorem zw_119 : Cond.fieldLink "SurrogateTree$StandInSearch" 42 "SurrogateTree$Node" "rows" "I" ∈ zn_TS := zn_in 119 (by decide +kernel) rfl
theorem zw_120 : Cond.fieldLink "SurrogateTree" 162 "SurrogateTree$Node" "rows" "I" ∈ zn_TS := zn_in 120 (by decide +kernel) rfl
theorem zw_121 : Cond.fieldLink "SurrogateTree$Node" 29 "SurrogateTree$Node" "majority" "I" ∈ zn_TS := zn_in 121 (by decide +kernel) rfl
theorem zw_122 : Cond.fieldLink "SurrogateTree" 165 "SurrogateTree$Node" "majority" "I" ∈ zn_TS := zn_in 122 (by decide +kernel) rfl
theorem zw_123 : Cond.fieldLink "SurrogateTree$Cutter" 42 "SurrogateTree$Node" "strays" "I" ∈ zn_TS := zn_in 123 (by decide +kernel) rfl
theorem zw_124 : Cond.fieldLink "SurrogateTree$Node" 42 "SurrogateTree$Node" "strays" "I" ∈ zn_TS := zn_in 124 (by decide +kernel) rfl
theorem zw_125 : Cond.fieldLink "SurrogateTree" 168 "SurrogateTree$Node" "strays" "I" ∈ zn_TS := zn_in 125 (by decide +kernel) rfl
theorem zw_126 : Cond.fieldLink "SurrogateTree$StandInSearch" 31 "SurrogateTree$Node" "feature" "I" ∈ zn_TS := zn_in 126 (by decide +kernel) rfl
theorem zw_127 : Cond.fieldLink "SurrogateTree$SplitSearch" 102 "SurrogateTree$Node" "feature" "I" ∈ zn_TS := zn_in 127 (by decide +kernel) rfl
theorem zw_128 : Cond.fieldLink "SurrogateTree$Node" 55 "SurrogateTree$Node" "feature" "I" ∈ zn_TS := zn_in 128 (by decide +kernel) rfl
theorem zw_129 : Cond.fieldLink "SurrogateTree" 128 "SurrogateTree$Node" "feature" "I" ∈ zn_TS := zn_in 129 (by decide +kernel) rfl
theorem zw_130 : Cond.fieldLink "SurrogateTree$StandInSearch" 51 "SurrogateTree$Node" "limit" "I" ∈ zn_TS := zn_in 130 (by decide +kernel) rfl
theorem zw_131 : Cond.fieldLink "SurrogateTree$SplitSearch" 105 "SurrogateTree$Node" "limit" "I" ∈ zn_TS := zn_in 131 (by decide +kernel) rfl
theorem zw_132 : Cond.fieldLink "SurrogateTree$Node" 59 "SurrogateTree$Node" "limit" "I" ∈ zn_TS := zn_in 132 (by decide +kernel) rfl
theorem zw_133 : Cond.fieldLink "SurrogateTree" 143 "SurrogateTree$Node" "limit" "I" ∈ zn_TS := zn_in 133 (by decide +kernel) rfl
theorem zw_134 : Cond.fieldLink "SurrogateTree$Node" 12 "SurrogateTree$Node" "worth" "LSurrogateTree$Fraction;" ∈ zn_TS := zn_in 134 (by decide +kernel) rfl
theorem zw_135 : Cond.fieldLink "SurrogateTree$SplitSearch" 32 "SurrogateTree$Node" "worth" "LSurrogateTree$Fraction;" ∈ zn_TS := zn_in 135 (by decide +kernel) rfl
theorem zw_136 : Cond.fieldLink "SurrogateTree" 147 "SurrogateTree$Node" "worth" "LSurrogateTree$Fraction;" ∈ zn_TS := zn_in 136 (by decide +kernel) rfl
theorem zw_137 : Cond.fieldLink "SurrogateTree$SplitSearch" 108 "SurrogateTree$Node" "leansLeft" "Z" ∈ zn_TS := zn_in 137 (by decide +kernel) rfl
theorem zw_138 : Cond.fieldLink "SurrogateTree$Node" 67 "SurrogateTree$Node" "leansLeft" "Z" ∈ zn_TS := zn_in 138 (by decide +kernel) rfl
theorem zw_139 : Cond.fieldLink "SurrogateTree$Node" 20 "SurrogateTree$Node" "standIns" "[LSurrogateTree$StandIn;" ∈ zn_TS := zn_in 139 (by decide +kernel) rfl
theorem zw_140 : Cond.fieldLink "SurrogateTree" 134 "SurrogateTree$Node" "standIns" "[LSurrogateTree$StandIn;" ∈ zn_TS := zn_in 140 (by decide +kernel) rfl
theorem zw_141 : Cond.fieldLink "SurrogateTree$StandInSearch" 25 "SurrogateTree$Node" "standInCount" "I" ∈ zn_TS := zn_in 141 (by decide +kernel) rfl
theorem zw_142 : Cond.fieldLink "SurrogateTree$Node" 45 "SurrogateTree$Node" "standInCount" "I" ∈ zn_TS := zn_in 142 (by decide +kernel) rfl
theorem zw_143 : Cond.lays "SurrogateTree$Node" "SurrogateTree$Node" "rows" "I" ∈ zn_TS := zn_in 143 (by decide +kernel) rfl
theorem zw_145 : Cond.lays "SurrogateTree$Node" "SurrogateTree$Node" "majority" "I" ∈ zn_TS := zn_in 145 (by decide +kernel) rfl
theorem zw_147 : Cond.lays "SurrogateTree$Node" "SurrogateTree$Node" "strays" "I" ∈ zn_TS := zn_in 147 (by decide +kernel) rfl
theorem zw_149 : Cond.lays "SurrogateTree$Node" "SurrogateTree$Node" "feature" "I" ∈ zn_TS := zn_in 149 (by decide +kernel) rfl
theorem zw_151 : Cond.lays "SurrogateTree$Node" "SurrogateTree$Node" "limit" "I" ∈ zn_TS := zn_in 151 (by decide +kernel) rfl
theorem zw_153 : Cond.laysFinal "SurrogateTree$Node" "SurrogateTree$Node" "worth" "LSurrogateTree$Fraction;" ∈ zn_TS := zn_in 153 (by decide +kernel) rfl
theorem zw_155 : Cond.lays "SurrogateTree$Node" "SurrogateTree$Node" "leansLeft" "Z" ∈ zn_TS := zn_in 155 (by decide +kernel) rfl
theorem zw_157 : Cond.laysFinal "SurrogateTree$Node" "SurrogateTree$Node" "standIns" "[LSurrogateTree$StandIn;" ∈ zn_TS := zn_in 157 (by decide +kernel) rfl
theorem zw_159 : Cond.lays "SurrogateTree$Node" "SurrogateTree$Node" "standInCount" "I" ∈ zn_TS := zn_in 159 (by decide +kernel) rfl
theorem zw_162 : Cond.classLink "SurrogateTree" 30 "SurrogateTree$Shape" ∈ zn_TS := zn_in 162 (by decide +kernel) rfl
theorem zw_163 : Cond.instantiable "SurrogateTree$Shape" 1 ∈ zn_TS := zn_in 163 (by decide +kernel) rfl
theorem zw_164 : Cond.methodLink "SurrogateTree" 32 ⟨"SurrogateTree$Shape", "<init>", "()V"⟩ ∈ zn_TS := zn_in 164 (by decide +kernel) rfl
theorem zw_165 : Cond.instanceMethod ⟨"SurrogateTree$Shape", "<init>", "()V"⟩ ∈ zn_TS := zn_in 165 (by decide +kernel) rfl
theorem zw_166 : Cond.code ⟨"SurrogateTree$Shape", "<init>", "()V"⟩ prog_7_method_1_code 1 none ∈ zn_TS := zn_in 166 (by decide +kernel) rfl
theorem zw_167 : Cond.methodLink "SurrogateTree$Shape" 3 ⟨"java/lang/Object", "<init>", "()V"⟩ ∈ zn_TS := zn_in 167 (by decide +kernel) rfl
theorem zw_168 : Cond.methodLink "SurrogateTree$Shape" 15 ⟨"SurrogateTree$Shape", "clear", "()V"⟩ ∈ zn_TS := zn_in 168 (by decide +kernel) rfl
theorem zw_169 : Cond.instanceMethod ⟨"SurrogateTree$Shape", "clear", "()V"⟩ ∈ zn_TS := zn_in 169 (by decide +kernel) rfl
theorem zw_170 : Cond.selects "SurrogateTree$Shape" ⟨"SurrogateTree$Shape", "clear", "()V"⟩ ⟨"SurrogateTree$Shape", "clear", "()V"⟩ ∈ zn_TS := zn_in 170 (by decide +kernel) rfl
theorem zw_171 : Cond.code ⟨"SurrogateTree$Shape", "clear", "()V"⟩ prog_7_method_2_code 2 none ∈ zn_TS := zn_in 171 (by decide +kernel) rfl
theorem zw_172 : Cond.fieldLink "SurrogateTree$Shape" 9 "SurrogateTree$Shape" "kinds" "[I" ∈ zn_TS := zn_in 172 (by decide +kernel) rfl
theorem zw_173 : Cond.fieldLink "SurrogateTree$Cutter" 48 "SurrogateTree$Shape" "kinds" "[I" ∈ zn_TS := zn_in 173 (by decide +kernel) rfl
theorem zw_174 : Cond.fieldLink "SurrogateTree" 219 "SurrogateTree$Shape" "kinds" "[I" ∈ zn_TS := zn_in 174 (by decide +kernel) rfl
theorem zw_175 : Cond.laysFinal "SurrogateTree$Shape" "SurrogateTree$Shape" "kinds" "[I" ∈ zn_TS := zn_in 175 (by decide +kernel) rfl
theorem zw_178 : Cond.classLink "SurrogateTree" 40 "SurrogateTree$SplitSearch" ∈ zn_TS := zn_in 178 (by decide +kernel) rfl
theorem zw_179 : Cond.instantiable "SurrogateTree$SplitSearch" 6 ∈ zn_TS := zn_in 179 (by decide +kernel) rfl
theorem zw_180 : Cond.methodLink "SurrogateTree" 42 ⟨"SurrogateTree$SplitSearch", "<init>", "()V"⟩ ∈ zn_TS := zn_in 180 (by decide +kernel) rfl
theorem zw_181 : Cond.instanceMethod ⟨"SurrogateTree$SplitSearch", "<init>", "()V"⟩ ∈ zn_TS := zn_in 181 (by decide +kernel) rfl
theorem zw_182 : Cond.code ⟨"SurrogateTree$SplitSearch", "<init>", "()V"⟩ prog_8_method_1_code 1 none ∈ zn_TS := zn_in 182 (by decide +kernel) rfl
theorem zw_183 : Cond.methodLink "SurrogateTree$SplitSearch" 3 ⟨"java/lang/Object", "<init>", "()V"⟩ ∈ zn_TS := zn_in 183 (by decide +kernel) rfl
theorem zw_184 : Cond.classLink "SurrogateTree$SplitSearch" 9 "SurrogateTree$Limits" ∈ zn_TS := zn_in 184 (by decide +kernel) rfl
theorem zw_185 : Cond.instantiable "SurrogateTree$Limits" 2 ∈ zn_TS := zn_in 185 (by decide +kernel) rfl
theorem zw_186 : Cond.methodLink "SurrogateTree$SplitSearch" 11 ⟨"SurrogateTree$Limits", "<init>", "()V"⟩ ∈ zn_TS := zn_in 186 (by decide +kernel) rfl
theorem zw_187 : Cond.instanceMethod ⟨"SurrogateTree$Limits", "<init>", "()V"⟩ ∈ zn_TS := zn_in 187 (by decide +kernel) rfl
theorem zw_188 : Cond.code ⟨"SurrogateTree$Limits", "<init>", "()V"⟩ prog_5_method_1_code 1 none ∈ zn_TS := zn_in 188 (by decide +kernel) rfl
theorem zw_189 : Cond.methodLink "SurrogateTree$Limits" 3 ⟨"java/lang/Object", "<init>", "()V"⟩ ∈ zn_TS := zn_in 189 (by decide +kernel) rfl
theorem zw_190 : Cond.fieldLink "SurrogateTree$Limits" 9 "SurrogateTree$Limits" "sorted" "[I" ∈ zn_TS := zn_in 190 (by decide +kernel) rfl
theorem zw_191 : Cond.fieldLink "SurrogateTree$Limits" 15 "SurrogateTree$Limits" "distinct" "I" ∈ zn_TS := zn_in 191 (by decide +kernel) rfl
theorem zw_192 : Cond.laysFinal "SurrogateTree$Limits" "SurrogateTree$Limits" "sorted" "[I" ∈ zn_TS := zn_in 192 (by decide +kernel) rfl
theorem zw_194 : Cond.lays "SurrogateTree$Limits" "SurrogateTree$Limits" "distinct" "I" ∈ zn_TS := zn_in 194 (by decide +kernel) rfl
theorem zw_197 : Cond.classLink "SurrogateTree$SplitSearch" 25 "SurrogateTree$Fraction" ∈ zn_TS := zn_in 197 (by decide +kernel) rfl
theorem zw_198 : Cond.methodLink "SurrogateTree$SplitSearch" 27 ⟨"SurrogateTree$Fraction", "<init>", "()V"⟩ ∈ zn_TS := zn_in 198 (by decide +kernel) rfl
theorem zw_199 : Cond.fieldLink "SurrogateTree$SplitSearch" 12 "SurrogateTree$SplitSearch" "limits" "LSurrogateTree$Limits;" ∈ zn_TS := zn_in 199 (by decide +kernel) rfl
theorem zw_200 : Cond.fieldLink "SurrogateTree$SplitSearch" 18 "SurrogateTree$SplitSearch" "left" "[I" ∈ zn_TS := zn_in 200 (by decide +kernel) rfl
theorem zw_201 : Cond.fieldLink "SurrogateTree$SplitSearch" 22 "SurrogateTree$SplitSearch" "right" "[I" ∈ zn_TS := zn_in 201 (by decide +kernel) rfl
theorem zw_202 : Cond.fieldLink "SurrogateTree$SplitSearch" 70 "SurrogateTree$SplitSearch" "leftWeight" "I" ∈ zn_TS := zn_in 202 (by decide +kernel) rfl
theorem zw_203 : Cond.fieldLink "SurrogateTree$SplitSearch" 73 "SurrogateTree$SplitSearch" "rightWeight" "I" ∈ zn_TS := zn_in 203 (by decide +kernel) rfl
theorem zw_204 : Cond.fieldLink "SurrogateTree$SplitSearch" 28 "SurrogateTree$SplitSearch" "candidate" "LSurrogateTree$Fraction;" ∈ zn_TS := zn_in 204 (by decide +kernel) rfl
theorem zw_205 : Cond.laysFinal "SurrogateTree$SplitSearch" "SurrogateTree$SplitSearch" "limits" "LSurrogateTree$Limits;" ∈ zn_TS := zn_in 205 (by decide +kernel) rfl
theorem zw_207 : Cond.laysFinal "SurrogateTree$SplitSearch" "SurrogateTree$SplitSearch" "left" "[I" ∈ zn_TS := zn_in 207 (by decide +kernel) rfl
theorem zw_209 : Cond.laysFinal "SurrogateTree$SplitSearch" "SurrogateTree$SplitSearch" "right" "[I" ∈ zn_TS := zn_in 209 (by decide +kernel) rfl
theorem zw_211 : Cond.lays "SurrogateTree$SplitSearch" "SurrogateTree$SplitSearch" "leftWeight" "I" ∈ zn_TS := zn_in 211 (by decide +kernel) rfl
theorem zw_213 : Cond.lays "SurrogateTree$SplitSearch" "SurrogateTree$SplitSearch" "rightWeight" "I" ∈ zn_TS := zn_in 213 (by decide +kernel) rfl
theorem zw_215 : Cond.laysFinal "SurrogateTree$SplitSearch" "SurrogateTree$SplitSearch" "candidate" "LSurrogateTree$Fraction;" ∈ zn_TS := zn_in 215 (by decide +kernel) rfl
theorem zw_218 : Cond.classLink "SurrogateTree" 47 "SurrogateTree$StandInSearch" ∈ zn_TS := zn_in 218 (by decide +kernel) rfl
theorem zw_219 : Cond.instantiable "SurrogateTree$StandInSearch" 2 ∈ zn_TS := zn_in 219 (by decide +kernel) rfl
theorem zw_220 : Cond.methodLink "SurrogateTree" 49 ⟨"SurrogateTree$StandInSearch", "<init>", "()V"⟩ ∈ zn_TS := zn_in 220 (by decide +kernel) rfl
theorem zw_221 : Cond.instanceMethod ⟨"SurrogateTree$StandInSearch", "<init>", "()V"⟩ ∈ zn_TS := zn_in 221 (by decide +kernel) rfl
theorem zw_222 : Cond.code ⟨"SurrogateTree$StandInSearch", "<init>", "()V"⟩ prog_10_method_1_code 1 none ∈ zn_TS := zn_in 222 (by decide +kernel) rfl
theorem zw_223 : Cond.methodLink "SurrogateTree$StandInSearch" 3 ⟨"java/lang/Object", "<init>", "()V"⟩ ∈ zn_TS := zn_in 223 (by decide +kernel) rfl
theorem zw_224 : Cond.classLink "SurrogateTree$StandInSearch" 9 "SurrogateTree$Limits" ∈ zn_TS := zn_in 224 (by decide +kernel) rfl
theorem zw_225 : Cond.methodLink "SurrogateTree$StandInSearch" 11 ⟨"SurrogateTree$Limits", "<init>", "()V"⟩ ∈ zn_TS := zn_in 225 (by decide +kernel) rfl
theorem zw_226 : Cond.classLink "SurrogateTree$StandInSearch" 18 "SurrogateTree$StandIn" ∈ zn_TS := zn_in 226 (by decide +kernel) rfl
theorem zw_228 : Cond.fieldLink "SurrogateTree$StandInSearch" 12 "SurrogateTree$StandInSearch" "limits" "LSurrogateTree$Limits;" ∈ zn_TS := zn_in 228 (by decide +kernel) rfl
theorem zw_229 : Cond.fieldLink "SurrogateTree$StandInSearch" 21 "SurrogateTree$StandInSearch" "best" "LSurrogateTree$StandIn;" ∈ zn_TS := zn_in 229 (by decide +kernel) rfl
theorem zw_230 : Cond.laysFinal "SurrogateTree$StandInSearch" "SurrogateTree$StandInSearch" "limits" "LSurrogateTree$Limits;" ∈ zn_TS := zn_in 230 (by decide +kernel) rfl
theorem zw_232 : Cond.laysFinal "SurrogateTree$StandInSearch" "SurrogateTree$StandInSearch" "best" "LSurrogateTree$StandIn;" ∈ zn_TS := zn_in 232 (by decide +kernel) rfl
theorem zw_235 : Cond.classLink "SurrogateTree" 54 "SurrogateTree$Cutter" ∈ zn_TS := zn_in 235 (by decide +kernel) rfl
theorem zw_236 : Cond.instantiable "SurrogateTree$Cutter" 6 ∈ zn_TS := zn_in 236 (by decide +kernel) rfl
theorem zw_237 : Cond.methodLink "SurrogateTree" 56 ⟨"SurrogateTree$Cutter", "<init>", "()V"⟩ ∈ zn_TS := zn_in 237 (by decide +kernel) rfl
theorem zw_238 : Cond.instanceMethod ⟨"SurrogateTree$Cutter", "<init>", "()V"⟩ ∈ zn_TS := zn_in 238 (by decide +kernel) rfl
theorem zw_239 : Cond.code ⟨"SurrogateTree$Cutter", "<init>", "()V"⟩ prog_3_method_1_code 1 none ∈ zn_TS := zn_in 239 (by decide +kernel) rfl
theorem zw_240 : Cond.methodLink "SurrogateTree$Cutter" 3 ⟨"java/lang/Object", "<init>", "()V"⟩ ∈ zn_TS := zn_in 240 (by decide +kernel) rfl
theorem zw_241 : Cond.classLink "SurrogateTree$Cutter" 9 "SurrogateTree$Fraction" ∈ zn_TS := zn_in 241 (by decide +kernel) rfl
theorem zw_242 : Cond.methodLink "SurrogateTree$Cutter" 11 ⟨"SurrogateTree$Fraction", "<init>", "()V"⟩ ∈ zn_TS := zn_in 242 (by decide +kernel) rfl
theorem zw_243 : Cond.classLink "SurrogateTree$Cutter" 18 "SurrogateTree$Shape" ∈ zn_TS := zn_in 243 (by decide +kernel) rfl
theorem zw_244 : Cond.methodLink "SurrogateTree$Cutter" 20 ⟨"SurrogateTree$Shape", "<init>", "()V"⟩ ∈ zn_TS := zn_in 244 (by decide +kernel) rfl
theorem zw_245 : Cond.fieldLink "SurrogateTree$Cutter" 12 "SurrogateTree$Cutter" "found" "LSurrogateTree$Fraction;" ∈ zn_TS := zn_in 245 (by decide +kernel) rfl
theorem zw_246 : Cond.fieldLink "SurrogateTree" 189 "SurrogateTree$Cutter" "found" "LSurrogateTree$Fraction;" ∈ zn_TS := zn_in 246 (by decide +kernel) rfl
theorem zw_247 : Cond.fieldLink "SurrogateTree$Cutter" 21 "SurrogateTree$Cutter" "rest" "LSurrogateTree$Shape;" ∈ zn_TS := zn_in 247 (by decide +kernel) rfl
theorem zw_248 : Cond.fieldLink "SurrogateTree$Cutter" 25 "SurrogateTree$Cutter" "candidate" "LSurrogateTree$Fraction;" ∈ zn_TS := zn_in 248 (by decide +kernel) rfl
theorem zw_249 : Cond.fieldLink "SurrogateTree$Cutter" 28 "SurrogateTree$Cutter" "costs" "[I" ∈ zn_TS := zn_in 249 (by decide +kernel) rfl
theorem zw_250 : Cond.fieldLink "SurrogateTree$Cutter" 32 "SurrogateTree$Cutter" "leavesBelow" "[I" ∈ zn_TS := zn_in 250 (by decide +kernel) rfl
theorem zw_251 : Cond.fieldLink "SurrogateTree$Cutter" 35 "SurrogateTree$Cutter" "straysBelow" "[I" ∈ zn_TS := zn_in 251 (by decide +kernel) rfl
theorem zw_252 : Cond.laysFinal "SurrogateTree$Cutter" "SurrogateTree$Cutter" "found" "LSurrogateTree$Fraction;" ∈ zn_TS := zn_in 252 (by decide +kernel) rfl
theorem zw_254 : Cond.laysFinal "SurrogateTree$Cutter" "SurrogateTree$Cutter" "rest" "LSurrogateTree$Shape;" ∈ zn_TS := zn_in 254 (by decide +kernel) rfl
theorem zw_256 : Cond.laysFinal "SurrogateTree$Cutter" "SurrogateTree$Cutter" "candidate" "LSurrogateTree$Fraction;" ∈ zn_TS := zn_in 256 (by decide +kernel) rfl
theorem zw_258 : Cond.laysFinal "SurrogateTree$Cutter" "SurrogateTree$Cutter" "costs" "[I" ∈ zn_TS := zn_in 258 (by decide +kernel) rfl
theorem zw_260 : Cond.laysFinal "SurrogateTree$Cutter" "SurrogateTree$Cutter" "leavesBelow" "[I" ∈ zn_TS := zn_in 260 (by decide +kernel) rfl
theorem zw_262 : Cond.laysFinal "SurrogateTree$Cutter" "SurrogateTree$Cutter" "straysBelow" "[I" ∈ zn_TS := zn_in 262 (by decide +kernel) rfl
theorem zw_265 : Cond.methodLink "SurrogateTree" 75 ⟨"SurrogateTree", "startAnew", "()V"⟩ ∈ zn_TS := zn_in 265 (by decide +kernel) rfl
theorem zw_267 : Cond.instanceMethod ⟨"SurrogateTree", "startAnew", "()V"⟩ ∈ zn_TS := zn_in 267 (by decide +kernel) rfl
theorem zw_268 : Cond.code ⟨"SurrogateTree", "startAnew", "()V"⟩ prog_1_method_23_code 1 none ∈ zn_TS := zn_in 268 (by decide +kernel) rfl
theorem zw_269 : Cond.methodLink "SurrogateTree" 211 ⟨"SurrogateTree$Shape", "clear", "()V"⟩ ∈ zn_TS := zn_in 269 (by decide +kernel) rfl
theorem zw_270 : Cond.methodLink "SurrogateTree" 100 ⟨"SurrogateTree$Table", "weightyRows", "()I"⟩ ∈ zn_TS := zn_in 270 (by decide +kernel) rfl
theorem zw_271 : Cond.instanceMethod ⟨"SurrogateTree$Table", "weightyRows", "()I"⟩ ∈ zn_TS := zn_in 271 (by decide +kernel) rfl
theorem zw_272 : Cond.selects "SurrogateTree$Table" ⟨"SurrogateTree$Table", "weightyRows", "()I"⟩ ⟨"SurrogateTree$Table", "weightyRows", "()I"⟩ ∈ zn_TS := zn_in 272 (by decide +kernel) rfl
theorem zw_273 : Cond.code ⟨"SurrogateTree$Table", "weightyRows", "()I"⟩ prog_11_method_7_code 3 (some .int) ∈ zn_TS := zn_in 273 (by decide +kernel) rfl
theorem zw_274 : Cond.methodLink "SurrogateTree" 212 ⟨"SurrogateTree", "openNode", "(II)V"⟩ ∈ zn_TS := zn_in 274 (by decide +kernel) rfl
theorem zw_276 : Cond.instanceMethod ⟨"SurrogateTree", "openNode", "(II)V"⟩ ∈ zn_TS := zn_in 276 (by decide +kernel) rfl
theorem zw_277 : Cond.code ⟨"SurrogateTree", "openNode", "(II)V"⟩ prog_1_method_24_code 3 none ∈ zn_TS := zn_in 277 (by decide +kernel) rfl
theorem zw_278 : Cond.methodLink "SurrogateTree" 215 ⟨"SurrogateTree$Node", "takeRows", "(LSurrogateTree$Table;I)V"⟩ ∈ zn_TS := zn_in 278 (by decide +kernel) rfl
theorem zw_279 : Cond.instanceMethod ⟨"SurrogateTree$Node", "takeRows", "(LSurrogateTree$Table;I)V"⟩ ∈ zn_TS := zn_in 279 (by decide +kernel) rfl
theorem zw_280 : Cond.selects "SurrogateTree$Node" ⟨"SurrogateTree$Node", "takeRows", "(LSurrogateTree$Table;I)V"⟩ ⟨"SurrogateTree$Node", "takeRows", "(LSurrogateTree$Table;I)V"⟩ ∈ zn_TS := zn_in 280 (by decide +kernel) rfl
theorem zw_281 : Cond.code ⟨"SurrogateTree$Node", "takeRows", "(LSurrogateTree$Table;I)V"⟩ prog_6_method_2_code 6 none ∈ zn_TS := zn_in 281 (by decide +kernel) rfl
theorem zw_282 : Cond.methodLink "SurrogateTree$Node" 32 ⟨"SurrogateTree$Table", "rowsInClass", "(II)I"⟩ ∈ zn_TS := zn_in 282 (by decide +kernel) rfl
theorem zw_283 : Cond.instanceMethod ⟨"SurrogateTree$Table", "rowsInClass", "(II)I"⟩ ∈ zn_TS := zn_in 283 (by decide +kernel) rfl
theorem zw_284 : Cond.selects "SurrogateTree$Table" ⟨"SurrogateTree$Table", "rowsInClass", "(II)I"⟩ ⟨"SurrogateTree$Table", "rowsInClass", "(II)I"⟩ ∈ zn_TS := zn_in 284 (by decide +kernel) rfl
theorem zw_285 : Cond.code ⟨"SurrogateTree$Table", "rowsInClass", "(II)I"⟩ prog_11_method_9_code 5 (some .int) ∈ zn_TS := zn_in 285 (by decide +kernel) rfl
theorem zw_286 : Cond.methodLink "SurrogateTree$Table" 39 ⟨"SurrogateTree$Table", "contains", "(II)Z"⟩ ∈ zn_TS := zn_in 286 (by decide +kernel) rfl
theorem zw_287 : Cond.static ⟨"SurrogateTree$Table", "contains", "(II)Z"⟩ ∈ zn_TS := zn_in 287 (by decide +kernel) rfl
theorem zw_288 : Cond.code ⟨"SurrogateTree$Table", "contains", "(II)Z"⟩ prog_11_method_12_code 2 (some .boolean) ∈ zn_TS := zn_in 288 (by decide +kernel) rfl
theorem zw_289 : Cond.methodLink "SurrogateTree$Node" 38 ⟨"SurrogateTree$Table", "weightOf", "(I)I"⟩ ∈ zn_TS := zn_in 289 (by decide +kernel) rfl
theorem zw_290 : Cond.instanceMethod ⟨"SurrogateTree$Table", "weightOf", "(I)I"⟩ ∈ zn_TS := zn_in 290 (by decide +kernel) rfl
theorem zw_291 : Cond.selects "SurrogateTree$Table" ⟨"SurrogateTree$Table", "weightOf", "(I)I"⟩ ⟨"SurrogateTree$Table", "weightOf", "(I)I"⟩ ∈ zn_TS := zn_in 291 (by decide +kernel) rfl
theorem zw_292 : Cond.code ⟨"SurrogateTree$Table", "weightOf", "(I)I"⟩ prog_11_method_8_code 4 (some .int) ∈ zn_TS := zn_in 292 (by decide +kernel) rfl
theorem zw_293 : Cond.fieldLink "SurrogateTree" 10 "SurrogateTree" "table" "LSurrogateTree$Table;" ∈ zn_TS := zn_in 293 (by decide +kernel) rfl
theorem zw_294 : Cond.fieldLink "SurrogateTree" 19 "SurrogateTree" "ballot" "LSurrogateTree$Ballot;" ∈ zn_TS := zn_in 294 (by decide +kernel) rfl
theorem zw_295 : Cond.fieldLink "SurrogateTree" 25 "SurrogateTree" "nodes" "[LSurrogateTree$Node;" ∈ zn_TS := zn_in 295 (by decide +kernel) rfl
theorem zw_296 : Cond.fieldLink "SurrogateTree" 33 "SurrogateTree" "grown" "LSurrogateTree$Shape;" ∈ zn_TS := zn_in 296 (by decide +kernel) rfl
theorem zw_297 : Cond.fieldLink "SurrogateTree" 37 "SurrogateTree" "trimmed" "LSurrogateTree$Shape;" ∈ zn_TS := zn_in 297 (by decide +kernel) rfl
theorem zw_298 : Cond.fieldLink "SurrogateTree" 43 "SurrogateTree" "splitSearch" "LSurrogateTree$SplitSearch;" ∈ zn_TS := zn_in 298 (by decide +kernel) rfl
theorem zw_299 : Cond.fieldLink "SurrogateTree" 50 "SurrogateTree" "standInSearch" "LSurrogateTree$StandInSearch;" ∈ zn_TS := zn_in 299 (by decide +kernel) rfl
theorem zw_300 : Cond.fieldLink "SurrogateTree" 57 "SurrogateTree" "cutter" "LSurrogateTree$Cutter;" ∈ zn_TS := zn_in 300 (by decide +kernel) rfl
theorem zw_301 : Cond.fieldLink "SurrogateTree" 61 "SurrogateTree" "asked" "[I" ∈ zn_TS := zn_in 301 (by decide +kernel) rfl
theorem zw_302 : Cond.fieldLink "SurrogateTree" 122 "SurrogateTree" "shown" "LSurrogateTree$Shape;" ∈ zn_TS := zn_in 302 (by decide +kernel) rfl
theorem zw_303 : Cond.fieldLink "SurrogateTree" 65 "SurrogateTree" "criterion" "I" ∈ zn_TS := zn_in 303 (by decide +kernel) rfl
theorem zw_304 : Cond.fieldLink "SurrogateTree" 69 "SurrogateTree" "depthLimit" "I" ∈ zn_TS := zn_in 304 (by decide +kernel) rfl
theorem zw_305 : Cond.fieldLink "SurrogateTree" 72 "SurrogateTree" "leafSize" "I" ∈ zn_TS := zn_in 305 (by decide +kernel) rfl
theorem zw_306 : Cond.laysFinal "SurrogateTree" "SurrogateTree" "table" "LSurrogateTree$Table;" ∈ zn_TS := zn_in 306 (by decide +kernel) rfl
theorem zw_308 : Cond.laysFinal "SurrogateTree" "SurrogateTree" "ballot" "LSurrogateTree$Ballot;" ∈ zn_TS := zn_in 308 (by decide +kernel) rfl
theorem zw_310 : Cond.laysFinal "SurrogateTree" "SurrogateTree" "nodes" "[LSurrogateTree$Node;" ∈ zn_TS := zn_in 310 (by decide +kernel) rfl
theorem zw_312 : Cond.laysFinal "SurrogateTree" "SurrogateTree" "grown" "LSurrogateTree$Shape;" ∈ zn_TS := zn_in 312 (by decide +kernel) rfl
theorem zw_314 : Cond.laysFinal "SurrogateTree" "SurrogateTree" "trimmed" "LSurrogateTree$Shape;" ∈ zn_TS := zn_in 314 (by decide +kernel) rfl
theorem zw_316 : Cond.laysFinal "SurrogateTree" "SurrogateTree" "splitSearch" "LSurrogateTree$SplitSearch;" ∈ zn_TS := zn_in 316 (by decide +kernel) rfl
theorem zw_318 : Cond.laysFinal "SurrogateTree" "SurrogateTree" "standInSearch" "LSurrogateTree$StandInSearch;" ∈ zn_TS := zn_in 318 (by decide +kernel) rfl
theorem zw_320 : Cond.laysFinal "SurrogateTree" "SurrogateTree" "cutter" "LSurrogateTree$Cutter;" ∈ zn_TS := zn_in 320 (by decide +kernel) rfl
theorem zw_322 : Cond.laysFinal "SurrogateTree" "SurrogateTree" "asked" "[I" ∈ zn_TS := zn_in 322 (by decide +kernel) rfl
theorem zw_324 : Cond.lays "SurrogateTree" "SurrogateTree" "shown" "LSurrogateTree$Shape;" ∈ zn_TS := zn_in 324 (by decide +kernel) rfl
theorem zw_326 : Cond.lays "SurrogateTree" "SurrogateTree" "criterion" "I" ∈ zn_TS := zn_in 326 (by decide +kernel) rfl
theorem zw_328 : Cond.lays "SurrogateTree" "SurrogateTree" "depthLimit" "I" ∈ zn_TS := zn_in 328 (by decide +kernel) rfl
theorem zw_330 : Cond.lays "SurrogateTree" "SurrogateTree" "leafSize" "I" ∈ zn_TS := zn_in 330 (by decide +kernel) rfl
theorem zw_333 : Cond.methodLink "SurrogateTreeLaw" 13 ⟨"SurrogateTree", "addRow", "(IIII)I"⟩ ∈ zn_TS := zn_in 333 (by decide +kernel) rfl
theorem zw_334 : Cond.instanceMethod ⟨"SurrogateTree", "addRow", "(IIII)I"⟩ ∈ zn_TS := zn_in 334 (by decide +kernel) rfl
theorem zw_335 : Cond.selects "SurrogateTree" ⟨"SurrogateTree", "addRow", "(IIII)I"⟩ ⟨"SurrogateTree", "addRow", "(IIII)I"⟩ ∈ zn_TS := zn_in 335 (by decide +kernel) rfl
theorem zw_336 : Cond.code ⟨"SurrogateTree", "addRow", "(IIII)I"⟩ prog_1_method_2_code 6 (some .int) ∈ zn_TS := zn_in 336 (by decide +kernel) rfl
theorem zw_337 : Cond.methodLink "SurrogateTree" 78 ⟨"SurrogateTree", "isClass", "(I)Z"⟩ ∈ zn_TS := zn_in 337 (by decide +kernel) rfl
theorem zw_338 : Cond.static ⟨"SurrogateTree", "isClass", "(I)Z"⟩ ∈ zn_TS := zn_in 338 (by decide +kernel) rfl
theorem zw_339 : Cond.code ⟨"SurrogateTree", "isClass", "(I)Z"⟩ prog_1_method_21_code 1 (some .boolean) ∈ zn_TS := zn_in 339 (by decide +kernel) rfl
theorem zw_340 : Cond.methodLink "SurrogateTree" 85 ⟨"SurrogateTree$Table", "append", "(IIII)I"⟩ ∈ zn_TS := zn_in 340 (by decide +kernel) rfl
theorem zw_341 : Cond.instanceMethod ⟨"SurrogateTree$Table", "append", "(IIII)I"⟩ ∈ zn_TS := zn_in 341 (by decide +kernel) rfl
theorem zw_342 : Cond.selects "SurrogateTree$Table" ⟨"SurrogateTree$Table", "append", "(IIII)I"⟩ ⟨"SurrogateTree$Table", "append", "(IIII)I"⟩ ∈ zn_TS := zn_in 342 (by decide +kernel) rfl
theorem zw_343 : Cond.code ⟨"SurrogateTree$Table", "append", "(IIII)I"⟩ prog_11_method_3_code 6 (some .int) ∈ zn_TS := zn_in 343 (by decide +kernel) rfl
theorem zw_344 : Cond.methodLink "SurrogateTree" 89 ⟨"SurrogateTree$Table", "setWeights", "(I)V"⟩ ∈ zn_TS := zn_in 344 (by decide +kernel) rfl
theorem zw_345 : Cond.instanceMethod ⟨"SurrogateTree$Table", "setWeights", "(I)V"⟩ ∈ zn_TS := zn_in 345 (by decide +kernel) rfl
theorem zw_346 : Cond.selects "SurrogateTree$Table" ⟨"SurrogateTree$Table", "setWeights", "(I)V"⟩ ⟨"SurrogateTree$Table", "setWeights", "(I)V"⟩ ∈ zn_TS := zn_in 346 (by decide +kernel) rfl
theorem zw_347 : Cond.code ⟨"SurrogateTree$Table", "setWeights", "(I)V"⟩ prog_11_method_4_code 3 none ∈ zn_TS := zn_in 347 (by decide +kernel) rfl
theorem zw_348 : Cond.methodLink "SurrogateTree" 93 ⟨"SurrogateTree$Ballot", "clear", "()V"⟩ ∈ zn_TS := zn_in 348 (by decide +kernel) rfl
theorem zw_349 : Cond.instanceMethod ⟨"SurrogateTree$Ballot", "clear", "()V"⟩ ∈ zn_TS := zn_in 349 (by decide +kernel) rfl
theorem zw_350 : Cond.selects "SurrogateTree$Ballot" ⟨"SurrogateTree$Ballot", "clear", "()V"⟩ ⟨"SurrogateTree$Ballot", "clear", "()V"⟩ ∈ zn_TS := zn_in 350 (by decide +kernel) rfl
theorem zw_351 : Cond.code ⟨"SurrogateTree$Ballot", "clear", "()V"⟩ prog_2_method_2_code 3 none ∈ zn_TS := zn_in 351 (by decide +kernel) rfl
theorem zw_352 : Cond.methodLink "SurrogateTreeLaw" 18 ⟨"SurrogateTree", "begin", "(III)Z"⟩ ∈ zn_TS := zn_in 352 (by decide +kernel) rfl
theorem zw_353 : Cond.instanceMethod ⟨"SurrogateTree", "begin", "(III)Z"⟩ ∈ zn_TS := zn_in 353 (by decide +kernel) rfl
theorem zw_354 : Cond.selects "SurrogateTree" ⟨"SurrogateTree", "begin", "(III)Z"⟩ ⟨"SurrogateTree", "begin", "(III)Z"⟩ ∈ zn_TS := zn_in 354 (by decide +kernel) rfl
theorem zw_355 : Cond.code ⟨"SurrogateTree", "begin", "(III)Z"⟩ prog_1_method_3_code 4 (some .boolean) ∈ zn_TS := zn_in 355 (by decide +kernel) rfl
theorem zw_356 : Cond.methodLink "SurrogateTreeLaw" 25 ⟨"SurrogateTree", "bag", "(J)I"⟩ ∈ zn_TS := zn_in 356 (by decide +kernel) rfl
theorem zw_357 : Cond.instanceMethod ⟨"SurrogateTree", "bag", "(J)I"⟩ ∈ zn_TS := zn_in 357 (by decide +kernel) rfl
theorem zw_358 : Cond.selects "SurrogateTree" ⟨"SurrogateTree", "bag", "(J)I"⟩ ⟨"SurrogateTree", "bag", "(J)I"⟩ ∈ zn_TS := zn_in 358 (by decide +kernel) rfl
theorem zw_359 : Cond.code ⟨"SurrogateTree", "bag", "(J)I"⟩ prog_1_method_4_code 3 (some .int) ∈ zn_TS := zn_in 359 (by decide +kernel) rfl
theorem zw_360 : Cond.methodLink "SurrogateTree" 96 ⟨"SurrogateTree$Table", "draw", "(J)V"⟩ ∈ zn_TS := zn_in 360 (by decide +kernel) rfl
theorem zw_361 : Cond.instanceMethod ⟨"SurrogateTree$Table", "draw", "(J)V"⟩ ∈ zn_TS := zn_in 361 (by decide +kernel) rfl
theorem zw_362 : Cond.selects "SurrogateTree$Table" ⟨"SurrogateTree$Table", "draw", "(J)V"⟩ ⟨"SurrogateTree$Table", "draw", "(J)V"⟩ ∈ zn_TS := zn_in 362 (by decide +kernel) rfl
theorem zw_363 : Cond.code ⟨"SurrogateTree$Table", "draw", "(J)V"⟩ prog_11_method_5_code 8 none ∈ zn_TS := zn_in 363 (by decide +kernel) rfl
theorem zw_364 : Cond.methodLink "SurrogateTree$Table" 27 ⟨"SurrogateTree$Table", "setWeights", "(I)V"⟩ ∈ zn_TS := zn_in 364 (by decide +kernel) rfl
theorem zw_365 : Cond.methodLink "SurrogateTree$Table" 31 ⟨"SurrogateTree$Table", "isFair", "(I)Z"⟩ ∈ zn_TS := zn_in 365 (by decide +kernel) rfl
theorem zw_367 : Cond.instanceMethod ⟨"SurrogateTree$Table", "isFair", "(I)Z"⟩ ∈ zn_TS := zn_in 367 (by decide +kernel) rfl
theorem zw_368 : Cond.code ⟨"SurrogateTree$Table", "isFair", "(I)Z"⟩ prog_11_method_6_code 2 (some .boolean) ∈ zn_TS := zn_in 368 (by decide +kernel) rfl
theorem zw_369 : Cond.constantLong "SurrogateTree$Table" 35 7391840562913847605 ∈ zn_TS := zn_in 369 (by decide +kernel) rfl
theorem zw_370 : Cond.constantLong "SurrogateTree$Table" 37 1027 ∈ zn_TS := zn_in 370 (by decide +kernel) rfl
theorem zw_371 : Cond.methodLink "SurrogateTree" 104 ⟨"java/lang/Integer", "bitCount", "(I)I"⟩ ∈ zn_TS := zn_in 371 (by decide +kernel) rfl
theorem zw_372 : Cond.static ⟨"java/lang/Integer", "bitCount", "(I)I"⟩ ∈ zn_TS := zn_in 372 (by decide +kernel) rfl
theorem zw_373 : Cond.code ⟨"java/lang/Integer", "bitCount", "(I)I"⟩ prog_14_method_49_code 1 (some .int) ∈ zn_TS := zn_in 373 (by decide +kernel) rfl
theorem zw_374 : Cond.constant "java/lang/Integer" 265 1431655765 ∈ zn_TS := zn_in 374 (by decide +kernel) rfl
theorem zw_375 : Cond.constant "java/lang/Integer" 266 858993459 ∈ zn_TS := zn_in 375 (by decide +kernel) rfl
theorem zw_376 : Cond.constant "java/lang/Integer" 267 252645135 ∈ zn_TS := zn_in 376 (by decide +kernel) rfl
theorem zw_377 : Cond.methodLink "SurrogateTreeLaw" 30 ⟨"SurrogateTree", "even", "()V"⟩ ∈ zn_TS := zn_in 377 (by decide +kernel) rfl
theorem zw_378 : Cond.instanceMethod ⟨"SurrogateTree", "even", "()V"⟩ ∈ zn_TS := zn_in 378 (by decide +kernel) rfl
theorem zw_379 : Cond.selects "SurrogateTree" ⟨"SurrogateTree", "even", "()V"⟩ ⟨"SurrogateTree", "even", "()V"⟩ ∈ zn_TS := zn_in 379 (by decide +kernel) rfl
theorem zw_380 : Cond.code ⟨"SurrogateTree", "even", "()V"⟩ prog_1_method_5_code 1 none ∈ zn_TS := zn_in 380 (by decide +kernel) rfl
theorem zw_381 : Cond.methodLink "SurrogateTreeLaw" 34 ⟨"SurrogateTree", "weight", "(I)I"⟩ ∈ zn_TS := zn_in 381 (by decide +kernel) rfl
theorem zw_382 : Cond.instanceMethod ⟨"SurrogateTree", "weight", "(I)I"⟩ ∈ zn_TS := zn_in 382 (by decide +kernel) rfl
theorem zw_383 : Cond.selects "SurrogateTree" ⟨"SurrogateTree", "weight", "(I)I"⟩ ⟨"SurrogateTree", "weight", "(I)I"⟩ ∈ zn_TS := zn_in 383 (by decide +kernel) rfl
theorem zw_384 : Cond.code ⟨"SurrogateTree", "weight", "(I)I"⟩ prog_1_method_6_code 2 (some .int) ∈ zn_TS := zn_in 384 (by decide +kernel) rfl
theorem zw_385 : Cond.methodLink "SurrogateTree" 110 ⟨"SurrogateTree$Table", "has", "(I)Z"⟩ ∈ zn_TS := zn_in 385 (by decide +kernel) rfl
theorem zw_386 : Cond.instanceMethod ⟨"SurrogateTree$Table", "has", "(I)Z"⟩ ∈ zn_TS := zn_in 386 (by decide +kernel) rfl
theorem zw_387 : Cond.selects "SurrogateTree$Table" ⟨"SurrogateTree$Table", "has", "(I)Z"⟩ ⟨"SurrogateTree$Table", "has", "(I)Z"⟩ ∈ zn_TS := zn_in 387 (by decide +kernel) rfl
theorem zw_388 : Cond.code ⟨"SurrogateTree$Table", "has", "(I)Z"⟩ prog_11_method_2_code 2 (some .boolean) ∈ zn_TS := zn_in 388 (by decide +kernel) rfl
theorem zw_389 : Cond.methodLink "SurrogateTreeLaw" 39 ⟨"SurrogateTree", "grow", "(I)I"⟩ ∈ zn_TS := zn_in 389 (by decide +kernel) rfl
theorem zw_390 : Cond.instanceMethod ⟨"SurrogateTree", "grow", "(I)I"⟩ ∈ zn_TS := zn_in 390 (by decide +kernel) rfl
theorem zw_391 : Cond.selects "SurrogateTree" ⟨"SurrogateTree", "grow", "(I)I"⟩ ⟨"SurrogateTree", "grow", "(I)I"⟩ ∈ zn_TS := zn_in 391 (by decide +kernel) rfl
theorem zw_392 : Cond.code ⟨"SurrogateTree", "grow", "(I)I"⟩ prog_1_method_7_code 5 (some .int) ∈ zn_TS := zn_in 392 (by decide +kernel) rfl
theorem zw_393 : Cond.methodLink "SurrogateTree" 116 ⟨"SurrogateTree$Shape", "firstWaiting", "()I"⟩ ∈ zn_TS := zn_in 393 (by decide +kernel) rfl
theorem zw_394 : Cond.instanceMethod ⟨"SurrogateTree$Shape", "firstWaiting", "()I"⟩ ∈ zn_TS := zn_in 394 (by decide +kernel) rfl
theorem zw_395 : Cond.selects "SurrogateTree$Shape" ⟨"SurrogateTree$Shape", "firstWaiting", "()I"⟩ ⟨"SurrogateTree$Shape", "firstWaiting", "()I"⟩ ∈ zn_TS := zn_in 395 (by decide +kernel) rfl
theorem zw_396 : Cond.code ⟨"SurrogateTree$Shape", "firstWaiting", "()I"⟩ prog_7_method_4_code 2 (some .int) ∈ zn_TS := zn_in 396 (by decide +kernel) rfl
theorem zw_397 : Cond.methodLink "SurrogateTree" 119 ⟨"SurrogateTree", "makeTurn", "(I)V"⟩ ∈ zn_TS := zn_in 397 (by decide +kernel) rfl
theorem zw_399 : Cond.instanceMethod ⟨"SurrogateTree", "makeTurn", "(I)V"⟩ ∈ zn_TS := zn_in 399 (by decide +kernel) rfl
theorem zw_400 : Cond.code ⟨"SurrogateTree", "makeTurn", "(I)V"⟩ prog_1_method_25_code 5 none ∈ zn_TS := zn_in 400 (by decide +kernel) rfl
theorem zw_401 : Cond.methodLink "SurrogateTree" 222 ⟨"SurrogateTree$SplitSearch", "findBest", "(LSurrogateTree$Table;LSurrogateTree$Node;II)Z"⟩ ∈ zn_TS := zn_in 401 (by decide +kernel) rfl
theorem zw_402 : Cond.instanceMethod ⟨"SurrogateTree$SplitSearch", "findBest", "(LSurrogateTree$Table;LSurrogateTree$Node;II)Z"⟩ ∈ zn_TS := zn_in 402 (by decide +kernel) rfl
theorem zw_403 : Cond.selects "SurrogateTree$SplitSearch" ⟨"SurrogateTree$SplitSearch", "findBest", "(LSurrogateTree$Table;LSurrogateTree$Node;II)Z"⟩ ⟨"SurrogateTree$SplitSearch", "findBest", "(LSurrogateTree$Table;LSurrogateTree$Node;II)Z"⟩ ∈ zn_TS := zn_in 403 (by decide +kernel) rfl
theorem zw_404 : Cond.code ⟨"SurrogateTree$SplitSearch", "findBest", "(LSurrogateTree$Table;LSurrogateTree$Node;II)Z"⟩ prog_8_method_2_code 8 (some .boolean) ∈ zn_TS := zn_in 404 (by decide +kernel) rfl
theorem zw_405 : Cond.methodLink "SurrogateTree$SplitSearch" 37 ⟨"SurrogateTree$Fraction", "set", "(JJ)V"⟩ ∈ zn_TS := zn_in 405 (by decide +kernel) rfl
theorem zw_406 : Cond.instanceMethod ⟨"SurrogateTree$Fraction", "set", "(JJ)V"⟩ ∈ zn_TS := zn_in 406 (by decide +kernel) rfl
theorem zw_407 : Cond.selects "SurrogateTree$Fraction" ⟨"SurrogateTree$Fraction", "set", "(JJ)V"⟩ ⟨"SurrogateTree$Fraction", "set", "(JJ)V"⟩ ∈ zn_TS := zn_in 407 (by decide +kernel) rfl
theorem zw_408 : Cond.code ⟨"SurrogateTree$Fraction", "set", "(JJ)V"⟩ prog_4_method_2_code 7 none ∈ zn_TS := zn_in 408 (by decide +kernel) rfl
theorem zw_409 : Cond.methodLink "SurrogateTree$Fraction" 16 ⟨"SurrogateTree$Fraction", "commonDivisor", "(JJ)J"⟩ ∈ zn_TS := zn_in 409 (by decide +kernel) rfl
theorem zw_410 : Cond.static ⟨"SurrogateTree$Fraction", "commonDivisor", "(JJ)J"⟩ ∈ zn_TS := zn_in 410 (by decide +kernel) rfl
theorem zw_411 : Cond.code ⟨"SurrogateTree$Fraction", "commonDivisor", "(JJ)J"⟩ prog_4_method_5_code 11 (some .long) ∈ zn_TS := zn_in 411 (by decide +kernel) rfl
theorem zw_412 : Cond.methodLink "SurrogateTree$SplitSearch" 45 ⟨"SurrogateTree$Table", "rowsPresent", "(II)I"⟩ ∈ zn_TS := zn_in 412 (by decide +kernel) rfl
theorem zw_413 : Cond.instanceMethod ⟨"SurrogateTree$Table", "rowsPresent", "(II)I"⟩ ∈ zn_TS := zn_in 413 (by decide +kernel) rfl
theorem zw_414 : Cond.selects "SurrogateTree$Table" ⟨"SurrogateTree$Table", "rowsPresent", "(II)I"⟩ ⟨"SurrogateTree$Table", "rowsPresent", "(II)I"⟩ ∈ zn_TS := zn_in 414 (by decide +kernel) rfl
theorem zw_415 : Cond.code ⟨"SurrogateTree$Table", "rowsPresent", "(II)I"⟩ prog_11_method_10_code 5 (some .int) ∈ zn_TS := zn_in 415 (by decide +kernel) rfl
theorem zw_416 : Cond.constant "SurrogateTree$Table" 43 (-2147483648) ∈ zn_TS := zn_in 416 (by decide +kernel) rfl
theorem zw_417 : Cond.methodLink "SurrogateTree$SplitSearch" 51 ⟨"SurrogateTree$Limits", "collect", "(LSurrogateTree$Table;II)V"⟩ ∈ zn_TS := zn_in 417 (by decide +kernel) rfl
theorem zw_418 : Cond.instanceMethod ⟨"SurrogateTree$Limits", "collect", "(LSurrogateTree$Table;II)V"⟩ ∈ zn_TS := zn_in 418 (by decide +kernel) rfl
theorem zw_419 : Cond.selects "SurrogateTree$Limits" ⟨"SurrogateTree$Limits", "collect", "(LSurrogateTree$Table;II)V"⟩ ⟨"SurrogateTree$Limits", "collect", "(LSurrogateTree$Table;II)V"⟩ ∈ zn_TS := zn_in 419 (by decide +kernel) rfl
theorem zw_420 : Cond.code ⟨"SurrogateTree$Limits", "collect", "(LSurrogateTree$Table;II)V"⟩ prog_5_method_2_code 5 none ∈ zn_TS := zn_in 420 (by decide +kernel) rfl
theorem zw_421 : Cond.methodLink "SurrogateTree$Limits" 24 ⟨"SurrogateTree$Table", "contains", "(II)Z"⟩ ∈ zn_TS := zn_in 421 (by decide +kernel) rfl
theorem zw_422 : Cond.methodLink "SurrogateTree$Limits" 32 ⟨"SurrogateTree$Limits", "insert", "(I)V"⟩ ∈ zn_TS := zn_in 422 (by decide +kernel) rfl
theorem zw_424 : Cond.instanceMethod ⟨"SurrogateTree$Limits", "insert", "(I)V"⟩ ∈ zn_TS := zn_in 424 (by decide +kernel) rfl
theorem zw_425 : Cond.code ⟨"SurrogateTree$Limits", "insert", "(I)V"⟩ prog_5_method_3_code 4 none ∈ zn_TS := zn_in 425 (by decide +kernel) rfl
theorem zw_426 : Cond.methodLink "SurrogateTree$SplitSearch" 55 ⟨"SurrogateTree$Limits", "count", "()I"⟩ ∈ zn_TS := zn_in 426 (by decide +kernel) rfl
theorem zw_427 : Cond.instanceMethod ⟨"SurrogateTree$Limits", "count", "()I"⟩ ∈ zn_TS := zn_in 427 (by decide +kernel) rfl
theorem zw_428 : Cond.selects "SurrogateTree$Limits" ⟨"SurrogateTree$Limits", "count", "()I"⟩ ⟨"SurrogateTree$Limits", "count", "()I"⟩ ∈ zn_TS := zn_in 428 (by decide +kernel) rfl
theorem zw_429 : Cond.code ⟨"SurrogateTree$Limits", "count", "()I"⟩ prog_5_method_4_code 1 (some .int) ∈ zn_TS := zn_in 429 (by decide +kernel) rfl
theorem zw_430 : Cond.methodLink "SurrogateTree$Limits" 36 ⟨"java/lang/Math", "max", "(II)I"⟩ ∈ zn_TS := zn_in 430 (by decide +kernel) rfl
theorem zw_431 : Cond.static ⟨"java/lang/Math", "max", "(II)I"⟩ ∈ zn_TS := zn_in 431 (by decide +kernel) rfl
theorem zw_432 : Cond.code ⟨"java/lang/Math", "max", "(II)I"⟩ prog_15_method_65_code 2 (some .int) ∈ zn_TS := zn_in 432 (by decide +kernel) rfl
theorem zw_433 : Cond.methodLink "SurrogateTree$SplitSearch" 59 ⟨"SurrogateTree$Limits", "at", "(I)I"⟩ ∈ zn_TS := zn_in 433 (by decide +kernel) rfl
theorem zw_434 : Cond.instanceMethod ⟨"SurrogateTree$Limits", "at", "(I)I"⟩ ∈ zn_TS := zn_in 434 (by decide +kernel) rfl
theorem zw_435 : Cond.selects "SurrogateTree$Limits" ⟨"SurrogateTree$Limits", "at", "(I)I"⟩ ⟨"SurrogateTree$Limits", "at", "(I)I"⟩ ∈ zn_TS := zn_in 435 (by decide +kernel) rfl
theorem zw_436 : Cond.code ⟨"SurrogateTree$Limits", "at", "(I)I"⟩ prog_5_method_5_code 2 (some .int) ∈ zn_TS := zn_in 436 (by decide +kernel) rfl
theorem zw_437 : Cond.constantLong "SurrogateTree$Limits" 42 2 ∈ zn_TS := zn_in 437 (by decide +kernel) rfl
theorem zw_438 : Cond.methodLink "SurrogateTree$Limits" 44 ⟨"java/lang/Math", "floorDiv", "(JJ)J"⟩ ∈ zn_TS := zn_in 438 (by decide +kernel) rfl
theorem zw_439 : Cond.static ⟨"java/lang/Math", "floorDiv", "(JJ)J"⟩ ∈ zn_TS := zn_in 439 (by decide +kernel) rfl
theorem zw_440 : Cond.code ⟨"java/lang/Math", "floorDiv", "(JJ)J"⟩ prog_15_method_49_code 6 (some .long) ∈ zn_TS := zn_in 440 (by decide +kernel) rfl
theorem zw_441 : Cond.methodLink "SurrogateTree$SplitSearch" 63 ⟨"SurrogateTree$Table", "rowsUpTo", "(III)I"⟩ ∈ zn_TS := zn_in 441 (by decide +kernel) rfl
theorem zw_442 : Cond.instanceMethod ⟨"SurrogateTree$Table", "rowsUpTo", "(III)I"⟩ ∈ zn_TS := zn_in 442 (by decide +kernel) rfl
theorem zw_443 : Cond.selects "SurrogateTree$Table" ⟨"SurrogateTree$Table", "rowsUpTo", "(III)I"⟩ ⟨"SurrogateTree$Table", "rowsUpTo", "(III)I"⟩ ∈ zn_TS := zn_in 443 (by decide +kernel) rfl
theorem zw_444 : Cond.code ⟨"SurrogateTree$Table", "rowsUpTo", "(III)I"⟩ prog_11_method_11_code 6 (some .int) ∈ zn_TS := zn_in 444 (by decide +kernel) rfl
theorem zw_445 : Cond.methodLink "SurrogateTree$SplitSearch" 67 ⟨"SurrogateTree$SplitSearch", "weighSides", "(LSurrogateTree$Table;II)V"⟩ ∈ zn_TS := zn_in 445 (by decide +kernel) rfl
theorem zw_447 : Cond.instanceMethod ⟨"SurrogateTree$SplitSearch", "weighSides", "(LSurrogateTree$Table;II)V"⟩ ∈ zn_TS := zn_in 447 (by decide +kernel) rfl
theorem zw_448 : Cond.code ⟨"SurrogateTree$SplitSearch", "weighSides", "(LSurrogateTree$Table;II)V"⟩ prog_8_method_3_code 6 none ∈ zn_TS := zn_in 448 (by decide +kernel) rfl
theorem zw_449 : Cond.methodLink "SurrogateTree$SplitSearch" 88 ⟨"SurrogateTree$Table", "rowsInClass", "(II)I"⟩ ∈ zn_TS := zn_in 449 (by decide +kernel) rfl
theorem zw_450 : Cond.methodLink "SurrogateTree$SplitSearch" 91 ⟨"SurrogateTree$Table", "weightOf", "(I)I"⟩ ∈ zn_TS := zn_in 450 (by decide +kernel) rfl
theorem zw_451 : Cond.methodLink "SurrogateTree$SplitSearch" 76 ⟨"SurrogateTree$SplitSearch", "measure", "(I)V"⟩ ∈ zn_TS := zn_in 451 (by decide +kernel) rfl
theorem zw_453 : Cond.instanceMethod ⟨"SurrogateTree$SplitSearch", "measure", "(I)V"⟩ ∈ zn_TS := zn_in 453 (by decide +kernel) rfl
theorem zw_454 : Cond.code ⟨"SurrogateTree$SplitSearch", "measure", "(I)V"⟩ prog_8_method_5_code 2 none ∈ zn_TS := zn_in 454 (by decide +kernel) rfl
theorem zw_455 : Cond.methodLink "SurrogateTree$SplitSearch" 112 ⟨"SurrogateTree$SplitSearch", "measureSquares", "()V"⟩ ∈ zn_TS := zn_in 455 (by decide +kernel) rfl
theorem zw_457 : Cond.instanceMethod ⟨"SurrogateTree$SplitSearch", "measureSquares", "()V"⟩ ∈ zn_TS := zn_in 457 (by decide +kernel) rfl
theorem zw_458 : Cond.code ⟨"SurrogateTree$SplitSearch", "measureSquares", "()V"⟩ prog_8_method_6_code 13 none ∈ zn_TS := zn_in 458 (by decide +kernel) rfl
theorem zw_459 : Cond.methodLink "SurrogateTree$SplitSearch" 115 ⟨"SurrogateTree$SplitSearch", "measureMajorities", "()V"⟩ ∈ zn_TS := zn_in 459 (by decide +kernel) rfl
theorem zw_461 : Cond.instanceMethod ⟨"SurrogateTree$SplitSearch", "measureMajorities", "()V"⟩ ∈ zn_TS := zn_in 461 (by decide +kernel) rfl
theorem zw_462 : Cond.code ⟨"SurrogateTree$SplitSearch", "measureMajorities", "()V"⟩ prog_8_method_7_code 5 none ∈ zn_TS := zn_in 462 (by decide +kernel) rfl
theorem zw_463 : Cond.methodLink "SurrogateTree$SplitSearch" 121 ⟨"java/lang/Math", "max", "(II)I"⟩ ∈ zn_TS := zn_in 463 (by decide +kernel) rfl
theorem zw_464 : Cond.methodLink "SurrogateTree$SplitSearch" 118 ⟨"SurrogateTree$SplitSearch", "measureDistance", "()V"⟩ ∈ zn_TS := zn_in 464 (by decide +kernel) rfl
theorem zw_466 : Cond.instanceMethod ⟨"SurrogateTree$SplitSearch", "measureDistance", "()V"⟩ ∈ zn_TS := zn_in 466 (by decide +kernel) rfl
theorem zw_467 : Cond.code ⟨"SurrogateTree$SplitSearch", "measureDistance", "()V"⟩ prog_8_method_8_code 5 none ∈ zn_TS := zn_in 467 (by decide +kernel) rfl
theorem zw_468 : Cond.methodLink "SurrogateTree$SplitSearch" 126 ⟨"java/lang/Math", "abs", "(I)I"⟩ ∈ zn_TS := zn_in 468 (by decide +kernel) rfl
theorem zw_469 : Cond.static ⟨"java/lang/Math", "abs", "(I)I"⟩ ∈ zn_TS := zn_in 469 (by decide +kernel) rfl
theorem zw_470 : Cond.code ⟨"java/lang/Math", "abs", "(I)I"⟩ prog_15_method_59_code 1 (some .int) ∈ zn_TS := zn_in 470 (by decide +kernel) rfl
theorem zw_471 : Cond.methodLink "SurrogateTree$SplitSearch" 80 ⟨"SurrogateTree$SplitSearch", "offer", "(LSurrogateTree$Node;II)V"⟩ ∈ zn_TS := zn_in 471 (by decide +kernel) rfl
theorem zw_473 : Cond.instanceMethod ⟨"SurrogateTree$SplitSearch", "offer", "(LSurrogateTree$Node;II)V"⟩ ∈ zn_TS := zn_in 473 (by decide +kernel) rfl
theorem zw_474 : Cond.code ⟨"SurrogateTree$SplitSearch", "offer", "(LSurrogateTree$Node;II)V"⟩ prog_8_method_4_code 4 none ∈ zn_TS := zn_in 474 (by decide +kernel) rfl
theorem zw_475 : Cond.methodLink "SurrogateTree$SplitSearch" 94 ⟨"SurrogateTree$Fraction", "isMoreThan", "(LSurrogateTree$Fraction;)Z"⟩ ∈ zn_TS := zn_in 475 (by decide +kernel) rfl
theorem zw_476 : Cond.instanceMethod ⟨"SurrogateTree$Fraction", "isMoreThan", "(LSurrogateTree$Fraction;)Z"⟩ ∈ zn_TS := zn_in 476 (by decide +kernel) rfl
theorem zw_477 : Cond.selects "SurrogateTree$Fraction" ⟨"SurrogateTree$Fraction", "isMoreThan", "(LSurrogateTree$Fraction;)Z"⟩ ⟨"SurrogateTree$Fraction", "isMoreThan", "(LSurrogateTree$Fraction;)Z"⟩ ∈ zn_TS := zn_in 477 (by decide +kernel) rfl
theorem zw_478 : Cond.code ⟨"SurrogateTree$Fraction", "isMoreThan", "(LSurrogateTree$Fraction;)Z"⟩ prog_4_method_4_code 2 (some .boolean) ∈ zn_TS := zn_in 478 (by decide +kernel) rfl
theorem zw_479 : Cond.methodLink "SurrogateTree$SplitSearch" 98 ⟨"SurrogateTree$Fraction", "copyFrom", "(LSurrogateTree$Fraction;)V"⟩ ∈ zn_TS := zn_in 479 (by decide +kernel) rfl
theorem zw_480 : Cond.instanceMethod ⟨"SurrogateTree$Fraction", "copyFrom", "(LSurrogateTree$Fraction;)V"⟩ ∈ zn_TS := zn_in 480 (by decide +kernel) rfl
theorem zw_481 : Cond.selects "SurrogateTree$Fraction" ⟨"SurrogateTree$Fraction", "copyFrom", "(LSurrogateTree$Fraction;)V"⟩ ⟨"SurrogateTree$Fraction", "copyFrom", "(LSurrogateTree$Fraction;)V"⟩ ∈ zn_TS := zn_in 481 (by decide +kernel) rfl
theorem zw_482 : Cond.code ⟨"SurrogateTree$Fraction", "copyFrom", "(LSurrogateTree$Fraction;)V"⟩ prog_4_method_3_code 2 none ∈ zn_TS := zn_in 482 (by decide +kernel) rfl
theorem zw_483 : Cond.methodLink "SurrogateTree" 226 ⟨"SurrogateTree$StandInSearch", "findFor", "(LSurrogateTree$Table;LSurrogateTree$Node;)V"⟩ ∈ zn_TS := zn_in 483 (by decide +kernel) rfl
theorem zw_484 : Cond.instanceMethod ⟨"SurrogateTree$StandInSearch", "findFor", "(LSurrogateTree$Table;LSurrogateTree$Node;)V"⟩ ∈ zn_TS := zn_in 484 (by decide +kernel) rfl
theorem zw_485 : Cond.selects "SurrogateTree$StandInSearch" ⟨"SurrogateTree$StandInSearch", "findFor", "(LSurrogateTree$Table;LSurrogateTree$Node;)V"⟩ ⟨"SurrogateTree$StandInSearch", "findFor", "(LSurrogateTree$Table;LSurrogateTree$Node;)V"⟩ ∈ zn_TS := zn_in 485 (by decide +kernel) rfl
theorem zw_486 : Cond.code ⟨"SurrogateTree$StandInSearch", "findFor", "(LSurrogateTree$Table;LSurrogateTree$Node;)V"⟩ prog_10_method_2_code 4 none ∈ zn_TS := zn_in 486 (by decide +kernel) rfl
theorem zw_487 : Cond.methodLink "SurrogateTree$StandInSearch" 34 ⟨"SurrogateTree$StandInSearch", "findAt", "(LSurrogateTree$Table;LSurrogateTree$Node;I)Z"⟩ ∈ zn_TS := zn_in 487 (by decide +kernel) rfl
theorem zw_489 : Cond.instanceMethod ⟨"SurrogateTree$StandInSearch", "findAt", "(LSurrogateTree$Table;LSurrogateTree$Node;I)Z"⟩ ∈ zn_TS := zn_in 489 (by decide +kernel) rfl
theorem zw_490 : Cond.code ⟨"SurrogateTree$StandInSearch", "findAt", "(LSurrogateTree$Table;LSurrogateTree$Node;I)Z"⟩ prog_10_method_3_code 13 (some .boolean) ∈ zn_TS := zn_in 490 (by decide +kernel) rfl
theorem zw_491 : Cond.methodLink "SurrogateTree$StandInSearch" 45 ⟨"SurrogateTree$Table", "rowsPresent", "(II)I"⟩ ∈ zn_TS := zn_in 491 (by decide +kernel) rfl
theorem zw_492 : Cond.methodLink "SurrogateTree$StandInSearch" 54 ⟨"SurrogateTree$Table", "rowsUpTo", "(III)I"⟩ ∈ zn_TS := zn_in 492 (by decide +kernel) rfl
theorem zw_493 : Cond.methodLink "SurrogateTree$StandInSearch" 58 ⟨"SurrogateTree$Table", "weightOf", "(I)I"⟩ ∈ zn_TS := zn_in 493 (by decide +kernel) rfl
theorem zw_494 : Cond.methodLink "SurrogateTree$StandInSearch" 62 ⟨"java/lang/Math", "max", "(II)I"⟩ ∈ zn_TS := zn_in 494 (by decide +kernel) rfl
theorem zw_495 : Cond.methodLink "SurrogateTree$StandInSearch" 71 ⟨"SurrogateTree$Limits", "collect", "(LSurrogateTree$Table;II)V"⟩ ∈ zn_TS := zn_in 495 (by decide +kernel) rfl
theorem zw_496 : Cond.methodLink "SurrogateTree$StandInSearch" 75 ⟨"SurrogateTree$Limits", "count", "()I"⟩ ∈ zn_TS := zn_in 496 (by decide +kernel) rfl
theorem zw_497 : Cond.methodLink "SurrogateTree$StandInSearch" 79 ⟨"SurrogateTree$Limits", "at", "(I)I"⟩ ∈ zn_TS := zn_in 497 (by decide +kernel) rfl
theorem zw_498 : Cond.methodLink "SurrogateTree$StandInSearch" 82 ⟨"SurrogateTree$StandInSearch", "offer", "(IZI)V"⟩ ∈ zn_TS := zn_in 498 (by decide +kernel) rfl
theorem zw_500 : Cond.instanceMethod ⟨"SurrogateTree$StandInSearch", "offer", "(IZI)V"⟩ ∈ zn_TS := zn_in 500 (by decide +kernel) rfl
theorem zw_501 : Cond.code ⟨"SurrogateTree$StandInSearch", "offer", "(IZI)V"⟩ prog_10_method_4_code 4 none ∈ zn_TS := zn_in 501 (by decide +kernel) rfl
theorem zw_502 : Cond.methodLink "SurrogateTree$StandInSearch" 38 ⟨"SurrogateTree$Node", "addStandIn", "(LSurrogateTree$StandIn;)V"⟩ ∈ zn_TS := zn_in 502 (by decide +kernel) rfl
theorem zw_503 : Cond.instanceMethod ⟨"SurrogateTree$Node", "addStandIn", "(LSurrogateTree$StandIn;)V"⟩ ∈ zn_TS := zn_in 503 (by decide +kernel) rfl
theorem zw_504 : Cond.selects "SurrogateTree$Node" ⟨"SurrogateTree$Node", "addStandIn", "(LSurrogateTree$StandIn;)V"⟩ ⟨"SurrogateTree$Node", "addStandIn", "(LSurrogateTree$StandIn;)V"⟩ ∈ zn_TS := zn_in 504 (by decide +kernel) rfl
theorem zw_505 : Cond.code ⟨"SurrogateTree$Node", "addStandIn", "(LSurrogateTree$StandIn;)V"⟩ prog_6_method_4_code 3 none ∈ zn_TS := zn_in 505 (by decide +kernel) rfl
theorem zw_506 : Cond.methodLink "SurrogateTree$Node" 51 ⟨"SurrogateTree$StandIn", "copyFrom", "(LSurrogateTree$StandIn;)V"⟩ ∈ zn_TS := zn_in 506 (by decide +kernel) rfl
theorem zw_507 : Cond.instanceMethod ⟨"SurrogateTree$StandIn", "copyFrom", "(LSurrogateTree$StandIn;)V"⟩ ∈ zn_TS := zn_in 507 (by decide +kernel) rfl
theorem zw_508 : Cond.selects "SurrogateTree$StandIn" ⟨"SurrogateTree$StandIn", "copyFrom", "(LSurrogateTree$StandIn;)V"⟩ ⟨"SurrogateTree$StandIn", "copyFrom", "(LSurrogateTree$StandIn;)V"⟩ ∈ zn_TS := zn_in 508 (by decide +kernel) rfl
theorem zw_509 : Cond.code ⟨"SurrogateTree$StandIn", "copyFrom", "(LSurrogateTree$StandIn;)V"⟩ prog_9_method_2_code 2 none ∈ zn_TS := zn_in 509 (by decide +kernel) rfl
theorem zw_510 : Cond.methodLink "SurrogateTree" 230 ⟨"SurrogateTree$Node", "rowsGoingLeft", "(LSurrogateTree$Table;)I"⟩ ∈ zn_TS := zn_in 510 (by decide +kernel) rfl
theorem zw_511 : Cond.instanceMethod ⟨"SurrogateTree$Node", "rowsGoingLeft", "(LSurrogateTree$Table;)I"⟩ ∈ zn_TS := zn_in 511 (by decide +kernel) rfl
theorem zw_512 : Cond.selects "SurrogateTree$Node" ⟨"SurrogateTree$Node", "rowsGoingLeft", "(LSurrogateTree$Table;)I"⟩ ⟨"SurrogateTree$Node", "rowsGoingLeft", "(LSurrogateTree$Table;)I"⟩ ∈ zn_TS := zn_in 512 (by decide +kernel) rfl
theorem zw_513 : Cond.code ⟨"SurrogateTree$Node", "rowsGoingLeft", "(LSurrogateTree$Table;)I"⟩ prog_6_method_6_code 4 (some .int) ∈ zn_TS := zn_in 513 (by decide +kernel) rfl
theorem zw_514 : Cond.methodLink "SurrogateTree$Node" 74 ⟨"SurrogateTree$Table", "contains", "(II)Z"⟩ ∈ zn_TS := zn_in 514 (by decide +kernel) rfl
theorem zw_515 : Cond.methodLink "SurrogateTree$Node" 82 ⟨"SurrogateTree$Node", "sendsLeft", "([I)Z"⟩ ∈ zn_TS := zn_in 515 (by decide +kernel) rfl
theorem zw_516 : Cond.instanceMethod ⟨"SurrogateTree$Node", "sendsLeft", "([I)Z"⟩ ∈ zn_TS := zn_in 516 (by decide +kernel) rfl
theorem zw_517 : Cond.selects "SurrogateTree$Node" ⟨"SurrogateTree$Node", "sendsLeft", "([I)Z"⟩ ⟨"SurrogateTree$Node", "sendsLeft", "([I)Z"⟩ ∈ zn_TS := zn_in 517 (by decide +kernel) rfl
theorem zw_518 : Cond.code ⟨"SurrogateTree$Node", "sendsLeft", "([I)Z"⟩ prog_6_method_5_code 4 (some .boolean) ∈ zn_TS := zn_in 518 (by decide +kernel) rfl
theorem zw_519 : Cond.constant "SurrogateTree$Node" 58 (-2147483648) ∈ zn_TS := zn_in 519 (by decide +kernel) rfl
theorem zw_520 : Cond.methodLink "SurrogateTree$Node" 63 ⟨"SurrogateTree$StandIn", "sendsLeft", "(I)Z"⟩ ∈ zn_TS := zn_in 520 (by decide +kernel) rfl
theorem zw_521 : Cond.instanceMethod ⟨"SurrogateTree$StandIn", "sendsLeft", "(I)Z"⟩ ∈ zn_TS := zn_in 521 (by decide +kernel) rfl
theorem zw_522 : Cond.selects "SurrogateTree$StandIn" ⟨"SurrogateTree$StandIn", "sendsLeft", "(I)Z"⟩ ⟨"SurrogateTree$StandIn", "sendsLeft", "(I)Z"⟩ ∈ zn_TS := zn_in 522 (by decide +kernel) rfl
theorem zw_523 : Cond.code ⟨"SurrogateTree$StandIn", "sendsLeft", "(I)Z"⟩ prog_9_method_3_code 2 (some .boolean) ∈ zn_TS := zn_in 523 (by decide +kernel) rfl
theorem zw_524 : Cond.methodLink "SurrogateTreeLaw" 43 ⟨"SurrogateTree", "kind", "(I)I"⟩ ∈ zn_TS := zn_in 524 (by decide +kernel) rfl
theorem zw_525 : Cond.instanceMethod ⟨"SurrogateTree", "kind", "(I)I"⟩ ∈ zn_TS := zn_in 525 (by decide +kernel) rfl
theorem zw_526 : Cond.selects "SurrogateTree" ⟨"SurrogateTree", "kind", "(I)I"⟩ ⟨"SurrogateTree", "kind", "(I)I"⟩ ∈ zn_TS := zn_in 526 (by decide +kernel) rfl
theorem zw_527 : Cond.code ⟨"SurrogateTree", "kind", "(I)I"⟩ prog_1_method_8_code 2 (some .int) ∈ zn_TS := zn_in 527 (by decide +kernel) rfl
theorem zw_528 : Cond.methodLink "SurrogateTree" 125 ⟨"SurrogateTree$Shape", "at", "(I)I"⟩ ∈ zn_TS := zn_in 528 (by decide +kernel) rfl
theorem zw_529 : Cond.instanceMethod ⟨"SurrogateTree$Shape", "at", "(I)I"⟩ ∈ zn_TS := zn_in 529 (by decide +kernel) rfl
theorem zw_530 : Cond.selects "SurrogateTree$Shape" ⟨"SurrogateTree$Shape", "at", "(I)I"⟩ ⟨"SurrogateTree$Shape", "at", "(I)I"⟩ ∈ zn_TS := zn_in 530 (by decide +kernel) rfl
theorem zw_531 : Cond.code ⟨"SurrogateTree$Shape", "at", "(I)I"⟩ prog_7_method_3_code 2 (some .int) ∈ zn_TS := zn_in 531 (by decide +kernel) rfl
theorem zw_532 : Cond.methodLink "SurrogateTreeLaw" 47 ⟨"SurrogateTree", "rule", "(II)I"⟩ ∈ zn_TS := zn_in 532 (by decide +kernel) rfl
theorem zw_533 : Cond.instanceMethod ⟨"SurrogateTree", "rule", "(II)I"⟩ ∈ zn_TS := zn_in 533 (by decide +kernel) rfl
theorem zw_534 : Cond.selects "SurrogateTree" ⟨"SurrogateTree", "rule", "(II)I"⟩ ⟨"SurrogateTree", "rule", "(II)I"⟩ ∈ zn_TS := zn_in 534 (by decide +kernel) rfl
theorem zw_535 : Cond.code ⟨"SurrogateTree", "rule", "(II)I"⟩ prog_1_method_9_code 4 (some .int) ∈ zn_TS := zn_in 535 (by decide +kernel) rfl
theorem zw_536 : Cond.methodLink "SurrogateTree" 131 ⟨"SurrogateTree$Node", "hasStandIn", "(I)Z"⟩ ∈ zn_TS := zn_in 536 (by decide +kernel) rfl
theorem zw_537 : Cond.instanceMethod ⟨"SurrogateTree$Node", "hasStandIn", "(I)Z"⟩ ∈ zn_TS := zn_in 537 (by decide +kernel) rfl
theorem zw_538 : Cond.selects "SurrogateTree$Node" ⟨"SurrogateTree$Node", "hasStandIn", "(I)Z"⟩ ⟨"SurrogateTree$Node", "hasStandIn", "(I)Z"⟩ ∈ zn_TS := zn_in 538 (by decide +kernel) rfl
theorem zw_539 : Cond.code ⟨"SurrogateTree$Node", "hasStandIn", "(I)Z"⟩ prog_6_method_3_code 2 (some .boolean) ∈ zn_TS := zn_in 539 (by decide +kernel) rfl
theorem zw_540 : Cond.methodLink "SurrogateTree" 138 ⟨"SurrogateTree$StandIn", "code", "()I"⟩ ∈ zn_TS := zn_in 540 (by decide +kernel) rfl
theorem zw_541 : Cond.instanceMethod ⟨"SurrogateTree$StandIn", "code", "()I"⟩ ∈ zn_TS := zn_in 541 (by decide +kernel) rfl
theorem zw_542 : Cond.selects "SurrogateTree$StandIn" ⟨"SurrogateTree$StandIn", "code", "()I"⟩ ⟨"SurrogateTree$StandIn", "code", "()I"⟩ ∈ zn_TS := zn_in 542 (by decide +kernel) rfl
theorem zw_543 : Cond.code ⟨"SurrogateTree$StandIn", "code", "()I"⟩ prog_9_method_4_code 1 (some .int) ∈ zn_TS := zn_in 543 (by decide +kernel) rfl
theorem zw_544 : Cond.methodLink "SurrogateTreeLaw" 52 ⟨"SurrogateTree", "threshold", "(II)I"⟩ ∈ zn_TS := zn_in 544 (by decide +kernel) rfl
theorem zw_545 : Cond.instanceMethod ⟨"SurrogateTree", "threshold", "(II)I"⟩ ∈ zn_TS := zn_in 545 (by decide +kernel) rfl
theorem zw_546 : Cond.selects "SurrogateTree" ⟨"SurrogateTree", "threshold", "(II)I"⟩ ⟨"SurrogateTree", "threshold", "(II)I"⟩ ∈ zn_TS := zn_in 546 (by decide +kernel) rfl
theorem zw_547 : Cond.code ⟨"SurrogateTree", "threshold", "(II)I"⟩ prog_1_method_10_code 4 (some .int) ∈ zn_TS := zn_in 547 (by decide +kernel) rfl
theorem zw_548 : Cond.methodLink "SurrogateTreeLaw" 56 ⟨"SurrogateTree", "gain", "(I)J"⟩ ∈ zn_TS := zn_in 548 (by decide +kernel) rfl
theorem zw_549 : Cond.instanceMethod ⟨"SurrogateTree", "gain", "(I)J"⟩ ∈ zn_TS := zn_in 549 (by decide +kernel) rfl
theorem zw_550 : Cond.selects "SurrogateTree" ⟨"SurrogateTree", "gain", "(I)J"⟩ ⟨"SurrogateTree", "gain", "(I)J"⟩ ∈ zn_TS := zn_in 550 (by decide +kernel) rfl
theorem zw_551 : Cond.code ⟨"SurrogateTree", "gain", "(I)J"⟩ prog_1_method_11_code 3 (some .long) ∈ zn_TS := zn_in 551 (by decide +kernel) rfl
theorem zw_552 : Cond.constantLong "SurrogateTree" 157 4096 ∈ zn_TS := zn_in 552 (by decide +kernel) rfl
theorem zw_553 : Cond.methodLink "SurrogateTreeLaw" 61 ⟨"SurrogateTree", "rowsOf", "(I)I"⟩ ∈ zn_TS := zn_in 553 (by decide +kernel) rfl
theorem zw_554 : Cond.instanceMethod ⟨"SurrogateTree", "rowsOf", "(I)I"⟩ ∈ zn_TS := zn_in 554 (by decide +kernel) rfl
theorem zw_555 : Cond.selects "SurrogateTree" ⟨"SurrogateTree", "rowsOf", "(I)I"⟩ ⟨"SurrogateTree", "rowsOf", "(I)I"⟩ ∈ zn_TS := zn_in 555 (by decide +kernel) rfl
theorem zw_556 : Cond.code ⟨"SurrogateTree", "rowsOf", "(I)I"⟩ prog_1_method_12_code 2 (some .int) ∈ zn_TS := zn_in 556 (by decide +kernel) rfl
theorem zw_557 : Cond.methodLink "SurrogateTreeLaw" 65 ⟨"SurrogateTree", "classOf", "(I)I"⟩ ∈ zn_TS := zn_in 557 (by decide +kernel) rfl
theorem zw_558 : Cond.instanceMethod ⟨"SurrogateTree", "classOf", "(I)I"⟩ ∈ zn_TS := zn_in 558 (by decide +kernel) rfl
theorem zw_559 : Cond.selects "SurrogateTree" ⟨"SurrogateTree", "classOf", "(I)I"⟩ ⟨"SurrogateTree", "classOf", "(I)I"⟩ ∈ zn_TS := zn_in 559 (by decide +kernel) rfl
theorem zw_560 : Cond.code ⟨"SurrogateTree", "classOf", "(I)I"⟩ prog_1_method_13_code 2 (some .int) ∈ zn_TS := zn_in 560 (by decide +kernel) rfl
theorem zw_561 : Cond.methodLink "SurrogateTreeLaw" 69 ⟨"SurrogateTree", "error", "(I)I"⟩ ∈ zn_TS := zn_in 561 (by decide +kernel) rfl
theorem zw_562 : Cond.instanceMethod ⟨"SurrogateTree", "error", "(I)I"⟩ ∈ zn_TS := zn_in 562 (by decide +kernel) rfl
theorem zw_563 : Cond.selects "SurrogateTree" ⟨"SurrogateTree", "error", "(I)I"⟩ ⟨"SurrogateTree", "error", "(I)I"⟩ ∈ zn_TS := zn_in 563 (by decide +kernel) rfl
theorem zw_564 : Cond.code ⟨"SurrogateTree", "error", "(I)I"⟩ prog_1_method_14_code 2 (some .int) ∈ zn_TS := zn_in 564 (by decide +kernel) rfl
theorem zw_565 : Cond.methodLink "SurrogateTreeLaw" 73 ⟨"SurrogateTree", "reach", "(III)I"⟩ ∈ zn_TS := zn_in 565 (by decide +kernel) rfl
theorem zw_566 : Cond.instanceMethod ⟨"SurrogateTree", "reach", "(III)I"⟩ ∈ zn_TS := zn_in 566 (by decide +kernel) rfl
theorem zw_567 : Cond.selects "SurrogateTree" ⟨"SurrogateTree", "reach", "(III)I"⟩ ⟨"SurrogateTree", "reach", "(III)I"⟩ ∈ zn_TS := zn_in 567 (by decide +kernel) rfl
theorem zw_568 : Cond.code ⟨"SurrogateTree", "reach", "(III)I"⟩ prog_1_method_15_code 4 (some .int) ∈ zn_TS := zn_in 568 (by decide +kernel) rfl
theorem zw_569 : Cond.methodLink "SurrogateTree" 171 ⟨"SurrogateTree", "endOf", "([I)I"⟩ ∈ zn_TS := zn_in 569 (by decide +kernel) rfl
theorem zw_571 : Cond.instanceMethod ⟨"SurrogateTree", "endOf", "([I)I"⟩ ∈ zn_TS := zn_in 571 (by decide +kernel) rfl
theorem zw_572 : Cond.code ⟨"SurrogateTree", "endOf", "([I)I"⟩ prog_1_method_26_code 4 (some .int) ∈ zn_TS := zn_in 572 (by decide +kernel) rfl
theorem zw_573 : Cond.methodLink "SurrogateTree" 234 ⟨"SurrogateTree$Node", "sendsLeft", "([I)Z"⟩ ∈ zn_TS := zn_in 573 (by decide +kernel) rfl
theorem zw_574 : Cond.methodLink "SurrogateTreeLaw" 78 ⟨"SurrogateTree", "cut", "(II)I"⟩ ∈ zn_TS := zn_in 574 (by decide +kernel) rfl
theorem zw_575 : Cond.instanceMethod ⟨"SurrogateTree", "cut", "(II)I"⟩ ∈ zn_TS := zn_in 575 (by decide +kernel) rfl
theorem zw_576 : Cond.selects "SurrogateTree" ⟨"SurrogateTree", "cut", "(II)I"⟩ ⟨"SurrogateTree", "cut", "(II)I"⟩ ∈ zn_TS := zn_in 576 (by decide +kernel) rfl
theorem zw_577 : Cond.code ⟨"SurrogateTree", "cut", "(II)I"⟩ prog_1_method_16_code 3 (some .int) ∈ zn_TS := zn_in 577 (by decide +kernel) rfl
theorem zw_578 : Cond.methodLink "SurrogateTree" 175 ⟨"SurrogateTree", "isCutTerm", "(I)Z"⟩ ∈ zn_TS := zn_in 578 (by decide +kernel) rfl
theorem zw_579 : Cond.static ⟨"SurrogateTree", "isCutTerm", "(I)Z"⟩ ∈ zn_TS := zn_in 579 (by decide +kernel) rfl
theorem zw_580 : Cond.code ⟨"SurrogateTree", "isCutTerm", "(I)Z"⟩ prog_1_method_22_code 1 (some .boolean) ∈ zn_TS := zn_in 580 (by decide +kernel) rfl
theorem zw_581 : Cond.methodLink "SurrogateTree" 178 ⟨"SurrogateTree$Cutter", "trim", "(LSurrogateTree$Shape;[LSurrogateTree$Node;IILSurrogateTree$Shape;)V"⟩ ∈ zn_TS := zn_in 581 (by decide +kernel) rfl
theorem zw_582 : Cond.instanceMethod ⟨"SurrogateTree$Cutter", "trim", "(LSurrogateTree$Shape;[LSurrogateTree$Node;IILSurrogateTree$Shape;)V"⟩ ∈ zn_TS := zn_in 582 (by decide +kernel) rfl
theorem zw_583 : Cond.selects "SurrogateTree$Cutter" ⟨"SurrogateTree$Cutter", "trim", "(LSurrogateTree$Shape;[LSurrogateTree$Node;IILSurrogateTree$Shape;)V"⟩ ⟨"SurrogateTree$Cutter", "trim", "(LSurrogateTree$Shape;[LSurrogateTree$Node;IILSurrogateTree$Shape;)V"⟩ ∈ zn_TS := zn_in 583 (by decide +kernel) rfl
theorem zw_584 : Cond.code ⟨"SurrogateTree$Cutter", "trim", "(LSurrogateTree$Shape;[LSurrogateTree$Node;IILSurrogateTree$Shape;)V"⟩ prog_3_method_2_code 9 none ∈ zn_TS := zn_in 584 (by decide +kernel) rfl
theorem zw_585 : Cond.methodLink "SurrogateTree$Cutter" 38 ⟨"SurrogateTree$Shape", "at", "(I)I"⟩ ∈ zn_TS := zn_in 585 (by decide +kernel) rfl
theorem zw_586 : Cond.methodLink "SurrogateTree$Cutter" 51 ⟨"SurrogateTree$Shape", "dropOrphans", "()V"⟩ ∈ zn_TS := zn_in 586 (by decide +kernel) rfl
theorem zw_587 : Cond.instanceMethod ⟨"SurrogateTree$Shape", "dropOrphans", "()V"⟩ ∈ zn_TS := zn_in 587 (by decide +kernel) rfl
theorem zw_588 : Cond.selects "SurrogateTree$Shape" ⟨"SurrogateTree$Shape", "dropOrphans", "()V"⟩ ⟨"SurrogateTree$Shape", "dropOrphans", "()V"⟩ ∈ zn_TS := zn_in 588 (by decide +kernel) rfl
theorem zw_589 : Cond.code ⟨"SurrogateTree$Shape", "dropOrphans", "()V"⟩ prog_7_method_6_code 2 none ∈ zn_TS := zn_in 589 (by decide +kernel) rfl
theorem zw_590 : Cond.methodLink "SurrogateTree" 182 ⟨"SurrogateTree$Shape", "leaves", "()I"⟩ ∈ zn_TS := zn_in 590 (by decide +kernel) rfl
theorem zw_591 : Cond.instanceMethod ⟨"SurrogateTree$Shape", "leaves", "()I"⟩ ∈ zn_TS := zn_in 591 (by decide +kernel) rfl
theorem zw_592 : Cond.selects "SurrogateTree$Shape" ⟨"SurrogateTree$Shape", "leaves", "()I"⟩ ⟨"SurrogateTree$Shape", "leaves", "()I"⟩ ∈ zn_TS := zn_in 592 (by decide +kernel) rfl
theorem zw_593 : Cond.code ⟨"SurrogateTree$Shape", "leaves", "()I"⟩ prog_7_method_5_code 3 (some .int) ∈ zn_TS := zn_in 593 (by decide +kernel) rfl
theorem zw_594 : Cond.methodLink "SurrogateTreeLaw" 82 ⟨"SurrogateTree", "breakAt", "(I)I"⟩ ∈ zn_TS := zn_in 594 (by decide +kernel) rfl
theorem zw_595 : Cond.instanceMethod ⟨"SurrogateTree", "breakAt", "(I)I"⟩ ∈ zn_TS := zn_in 595 (by decide +kernel) rfl
theorem zw_596 : Cond.selects "SurrogateTree" ⟨"SurrogateTree", "breakAt", "(I)I"⟩ ⟨"SurrogateTree", "breakAt", "(I)I"⟩ ∈ zn_TS := zn_in 596 (by decide +kernel) rfl
theorem zw_597 : Cond.code ⟨"SurrogateTree", "breakAt", "(I)I"⟩ prog_1_method_17_code 2 (some .int) ∈ zn_TS := zn_in 597 (by decide +kernel) rfl
theorem zw_598 : Cond.methodLink "SurrogateTree" 185 ⟨"SurrogateTree$Cutter", "findBreak", "(LSurrogateTree$Shape;[LSurrogateTree$Node;I)Z"⟩ ∈ zn_TS := zn_in 598 (by decide +kernel) rfl
theorem zw_599 : Cond.instanceMethod ⟨"SurrogateTree$Cutter", "findBreak", "(LSurrogateTree$Shape;[LSurrogateTree$Node;I)Z"⟩ ∈ zn_TS := zn_in 599 (by decide +kernel) rfl
theorem zw_600 : Cond.selects "SurrogateTree$Cutter" ⟨"SurrogateTree$Cutter", "findBreak", "(LSurrogateTree$Shape;[LSurrogateTree$Node;I)Z"⟩ ⟨"SurrogateTree$Cutter", "findBreak", "(LSurrogateTree$Shape;[LSurrogateTree$Node;I)Z"⟩ ∈ zn_TS := zn_in 600 (by decide +kernel) rfl
theorem zw_601 : Cond.code ⟨"SurrogateTree$Cutter", "findBreak", "(LSurrogateTree$Shape;[LSurrogateTree$Node;I)Z"⟩ prog_3_method_3_code 6 (some .boolean) ∈ zn_TS := zn_in 601 (by decide +kernel) rfl
theorem zw_602 : Cond.methodLink "SurrogateTree$Cutter" 54 ⟨"SurrogateTree$Cutter", "trim", "(LSurrogateTree$Shape;[LSurrogateTree$Node;IILSurrogateTree$Shape;)V"⟩ ∈ zn_TS := zn_in 602 (by decide +kernel) rfl
theorem zw_603 : Cond.methodLink "SurrogateTree$Cutter" 58 ⟨"SurrogateTree$Cutter", "findWeakest", "([LSurrogateTree$Node;)Z"⟩ ∈ zn_TS := zn_in 603 (by decide +kernel) rfl
theorem zw_605 : Cond.instanceMethod ⟨"SurrogateTree$Cutter", "findWeakest", "([LSurrogateTree$Node;)Z"⟩ ∈ zn_TS := zn_in 605 (by decide +kernel) rfl
theorem zw_606 : Cond.code ⟨"SurrogateTree$Cutter", "findWeakest", "([LSurrogateTree$Node;)Z"⟩ prog_3_method_4_code 4 (some .boolean) ∈ zn_TS := zn_in 606 (by decide +kernel) rfl
theorem zw_607 : Cond.methodLink "SurrogateTree$Cutter" 69 ⟨"SurrogateTree$Fraction", "set", "(JJ)V"⟩ ∈ zn_TS := zn_in 607 (by decide +kernel) rfl
theorem zw_608 : Cond.methodLink "SurrogateTree$Cutter" 73 ⟨"SurrogateTree$Fraction", "isMoreThan", "(LSurrogateTree$Fraction;)Z"⟩ ∈ zn_TS := zn_in 608 (by decide +kernel) rfl
theorem zw_609 : Cond.methodLink "SurrogateTree$Cutter" 77 ⟨"SurrogateTree$Fraction", "copyFrom", "(LSurrogateTree$Fraction;)V"⟩ ∈ zn_TS := zn_in 609 (by decide +kernel) rfl
theorem zw_610 : Cond.constantLong "SurrogateTree" 192 32 ∈ zn_TS := zn_in 610 (by decide +kernel) rfl
theorem zw_611 : Cond.methodLink "SurrogateTreeLaw" 86 ⟨"SurrogateTree", "tally", "()I"⟩ ∈ zn_TS := zn_in 611 (by decide +kernel) rfl
theorem zw_612 : Cond.instanceMethod ⟨"SurrogateTree", "tally", "()I"⟩ ∈ zn_TS := zn_in 612 (by decide +kernel) rfl
theorem zw_613 : Cond.selects "SurrogateTree" ⟨"SurrogateTree", "tally", "()I"⟩ ⟨"SurrogateTree", "tally", "()I"⟩ ∈ zn_TS := zn_in 613 (by decide +kernel) rfl
theorem zw_614 : Cond.code ⟨"SurrogateTree", "tally", "()I"⟩ prog_1_method_18_code 3 (some .int) ∈ zn_TS := zn_in 614 (by decide +kernel) rfl
theorem zw_615 : Cond.methodLink "SurrogateTree" 198 ⟨"SurrogateTree$Ballot", "add", "(II)V"⟩ ∈ zn_TS := zn_in 615 (by decide +kernel) rfl
theorem zw_616 : Cond.instanceMethod ⟨"SurrogateTree$Ballot", "add", "(II)V"⟩ ∈ zn_TS := zn_in 616 (by decide +kernel) rfl
theorem zw_617 : Cond.selects "SurrogateTree$Ballot" ⟨"SurrogateTree$Ballot", "add", "(II)V"⟩ ⟨"SurrogateTree$Ballot", "add", "(II)V"⟩ ∈ zn_TS := zn_in 617 (by decide +kernel) rfl
theorem zw_618 : Cond.code ⟨"SurrogateTree$Ballot", "add", "(II)V"⟩ prog_2_method_3_code 3 none ∈ zn_TS := zn_in 618 (by decide +kernel) rfl
theorem zw_619 : Cond.methodLink "SurrogateTreeLaw" 91 ⟨"SurrogateTree", "votes", "(II)I"⟩ ∈ zn_TS := zn_in 619 (by decide +kernel) rfl
theorem zw_620 : Cond.instanceMethod ⟨"SurrogateTree", "votes", "(II)I"⟩ ∈ zn_TS := zn_in 620 (by decide +kernel) rfl
theorem zw_621 : Cond.selects "SurrogateTree" ⟨"SurrogateTree", "votes", "(II)I"⟩ ⟨"SurrogateTree", "votes", "(II)I"⟩ ∈ zn_TS := zn_in 621 (by decide +kernel) rfl
theorem zw_622 : Cond.code ⟨"SurrogateTree", "votes", "(II)I"⟩ prog_1_method_19_code 3 (some .int) ∈ zn_TS := zn_in 622 (by decide +kernel) rfl
theorem zw_623 : Cond.methodLink "SurrogateTreeLaw" 95 ⟨"SurrogateTree", "wrong", "()I"⟩ ∈ zn_TS := zn_in 623 (by decide +kernel) rfl
theorem zw_624 : Cond.instanceMethod ⟨"SurrogateTree", "wrong", "()I"⟩ ∈ zn_TS := zn_in 624 (by decide +kernel) rfl
theorem zw_625 : Cond.selects "SurrogateTree" ⟨"SurrogateTree", "wrong", "()I"⟩ ⟨"SurrogateTree", "wrong", "()I"⟩ ∈ zn_TS := zn_in 625 (by decide +kernel) rfl
theorem zw_626 : Cond.code ⟨"SurrogateTree", "wrong", "()I"⟩ prog_1_method_20_code 4 (some .int) ∈ zn_TS := zn_in 626 (by decide +kernel) rfl
theorem zw_627 : Cond.methodLink "SurrogateTree" 205 ⟨"SurrogateTree$Ballot", "choice", "(I)I"⟩ ∈ zn_TS := zn_in 627 (by decide +kernel) rfl
theorem zw_628 : Cond.instanceMethod ⟨"SurrogateTree$Ballot", "choice", "(I)I"⟩ ∈ zn_TS := zn_in 628 (by decide +kernel) rfl
theorem zw_629 : Cond.selects "SurrogateTree$Ballot" ⟨"SurrogateTree$Ballot", "choice", "(I)I"⟩ ⟨"SurrogateTree$Ballot", "choice", "(I)I"⟩ ∈ zn_TS := zn_in 629 (by decide +kernel) rfl
theorem zw_630 : Cond.code ⟨"SurrogateTree$Ballot", "choice", "(I)I"⟩ prog_2_method_4_code 5 (some .int) ∈ zn_TS := zn_in 630 (by decide +kernel) rfl
theorem zw_631 : Cond.classLink "SurrogateTreeLaw" 10 "SurrogateTreeModel" ∈ zn_TS := zn_in 631 (by decide +kernel) rfl
theorem zw_632 : Cond.instantiable "SurrogateTreeModel" 34 ∈ zn_TS := zn_in 632 (by decide +kernel) rfl
theorem zw_633 : Cond.methodLink "SurrogateTreeLaw" 12 ⟨"SurrogateTreeModel", "<init>", "()V"⟩ ∈ zn_TS := zn_in 633 (by decide +kernel) rfl
theorem zw_634 : Cond.instanceMethod ⟨"SurrogateTreeModel", "<init>", "()V"⟩ ∈ zn_TS := zn_in 634 (by decide +kernel) rfl
theorem zw_635 : Cond.code ⟨"SurrogateTreeModel", "<init>", "()V"⟩ prog_13_method_1_code 1 none ∈ zn_TS := zn_in 635 (by decide +kernel) rfl
theorem zw_636 : Cond.methodLink "SurrogateTreeModel" 1 ⟨"java/lang/Object", "<init>", "()V"⟩ ∈ zn_TS := zn_in 636 (by decide +kernel) rfl
theorem zw_637 : Cond.methodLink "SurrogateTreeModel" 73 ⟨"SurrogateTreeModel", "anew", "()V"⟩ ∈ zn_TS := zn_in 637 (by decide +kernel) rfl
theorem zw_639 : Cond.instanceMethod ⟨"SurrogateTreeModel", "anew", "()V"⟩ ∈ zn_TS := zn_in 639 (by decide +kernel) rfl
theorem zw_640 : Cond.code ⟨"SurrogateTreeModel", "anew", "()V"⟩ prog_13_method_2_code 2 none ∈ zn_TS := zn_in 640 (by decide +kernel) rfl
theorem zw_641 : Cond.fieldLink "SurrogateTreeModel" 76 "SurrogateTreeModel" "n" "I" ∈ zn_TS := zn_in 641 (by decide +kernel) rfl
theorem zw_642 : Cond.fieldLink "SurrogateTreeModel" 7 "SurrogateTreeModel" "value" "[I" ∈ zn_TS := zn_in 642 (by decide +kernel) rfl
theorem zw_643 : Cond.fieldLink "SurrogateTreeModel" 13 "SurrogateTreeModel" "own" "[I" ∈ zn_TS := zn_in 643 (by decide +kernel) rfl
theorem zw_644 : Cond.fieldLink "SurrogateTreeModel" 16 "SurrogateTreeModel" "weight" "[I" ∈ zn_TS := zn_in 644 (by decide +kernel) rfl
theorem zw_645 : Cond.fieldLink "SurrogateTreeModel" 19 "SurrogateTreeModel" "vote" "[I" ∈ zn_TS := zn_in 645 (by decide +kernel) rfl
theorem zw_646 : Cond.fieldLink "SurrogateTreeModel" 86 "SurrogateTreeModel" "criterion" "I" ∈ zn_TS := zn_in 646 (by decide +kernel) rfl
theorem zw_647 : Cond.fieldLink "SurrogateTreeModel" 22 "SurrogateTreeModel" "limit" "I" ∈ zn_TS := zn_in 647 (by decide +kernel) rfl
theorem zw_648 : Cond.fieldLink "SurrogateTreeModel" 26 "SurrogateTreeModel" "leaf" "I" ∈ zn_TS := zn_in 648 (by decide +kernel) rfl
theorem zw_649 : Cond.fieldLink "SurrogateTreeModel" 29 "SurrogateTreeModel" "state" "[I" ∈ zn_TS := zn_in 649 (by decide +kernel) rfl
theorem zw_650 : Cond.fieldLink "SurrogateTreeModel" 32 "SurrogateTreeModel" "rows" "[I" ∈ zn_TS := zn_in 650 (by decide +kernel) rfl
theorem zw_651 : Cond.fieldLink "SurrogateTreeModel" 35 "SurrogateTreeModel" "feature" "[I" ∈ zn_TS := zn_in 651 (by decide +kernel) rfl
theorem zw_652 : Cond.fieldLink "SurrogateTreeModel" 38 "SurrogateTreeModel" "border" "[I" ∈ zn_TS := zn_in 652 (by decide +kernel) rfl
theorem zw_653 : Cond.fieldLink "SurrogateTreeModel" 79 "SurrogateTreeModel" "isCut" "Z" ∈ zn_TS := zn_in 653 (by decide +kernel) rfl
theorem zw_654 : Cond.fieldLink "SurrogateTreeModel" 186 "SurrogateTreeModel" "cutTop" "I" ∈ zn_TS := zn_in 654 (by decide +kernel) rfl
theorem zw_655 : Cond.fieldLink "SurrogateTreeModel" 189 "SurrogateTreeModel" "cutBottom" "I" ∈ zn_TS := zn_in 655 (by decide +kernel) rfl
theorem zw_656 : Cond.fieldLink "SurrogateTreeModel" 109 "SurrogateTreeModel" "top" "I" ∈ zn_TS := zn_in 656 (by decide +kernel) rfl
theorem zw_657 : Cond.fieldLink "SurrogateTreeModel" 112 "SurrogateTreeModel" "bottom" "I" ∈ zn_TS := zn_in 657 (by decide +kernel) rfl
theorem zw_658 : Cond.fieldLink "SurrogateTreeModel" 115 "SurrogateTreeModel" "bestFeature" "I" ∈ zn_TS := zn_in 658 (by decide +kernel) rfl
theorem zw_659 : Cond.fieldLink "SurrogateTreeModel" 136 "SurrogateTreeModel" "bestBorder" "I" ∈ zn_TS := zn_in 659 (by decide +kernel) rfl
theorem zw_660 : Cond.fieldLink "SurrogateTreeModel" 152 "SurrogateTreeModel" "count" "I" ∈ zn_TS := zn_in 660 (by decide +kernel) rfl
theorem zw_661 : Cond.fieldLink "SurrogateTreeModel" 41 "SurrogateTreeModel" "standFeature" "[I" ∈ zn_TS := zn_in 661 (by decide +kernel) rfl
theorem zw_662 : Cond.fieldLink "SurrogateTreeModel" 44 "SurrogateTreeModel" "standBorder" "[I" ∈ zn_TS := zn_in 662 (by decide +kernel) rfl
theorem zw_663 : Cond.fieldLink "SurrogateTreeModel" 47 "SurrogateTreeModel" "standTurned" "[I" ∈ zn_TS := zn_in 663 (by decide +kernel) rfl
theorem zw_664 : Cond.fieldLink "SurrogateTreeModel" 50 "SurrogateTreeModel" "standAgreed" "[I" ∈ zn_TS := zn_in 664 (by decide +kernel) rfl
theorem zw_665 : Cond.fieldLink "SurrogateTreeModel" 146 "SurrogateTreeModel" "oneBorder" "I" ∈ zn_TS := zn_in 665 (by decide +kernel) rfl
theorem zw_666 : Cond.fieldLink "SurrogateTreeModel" 149 "SurrogateTreeModel" "oneTurned" "I" ∈ zn_TS := zn_in 666 (by decide +kernel) rfl
theorem zw_667 : Cond.fieldLink "SurrogateTreeModel" 139 "SurrogateTreeModel" "oneAgreed" "I" ∈ zn_TS := zn_in 667 (by decide +kernel) rfl
theorem zw_668 : Cond.fieldLink "SurrogateTreeModel" 53 "SurrogateTreeModel" "errors" "[I" ∈ zn_TS := zn_in 668 (by decide +kernel) rfl
theorem zw_669 : Cond.fieldLink "SurrogateTreeModel" 56 "SurrogateTreeModel" "cost" "[J" ∈ zn_TS := zn_in 669 (by decide +kernel) rfl
theorem zw_670 : Cond.fieldLink "SurrogateTreeModel" 60 "SurrogateTreeModel" "leaves" "[I" ∈ zn_TS := zn_in 670 (by decide +kernel) rfl
theorem zw_671 : Cond.fieldLink "SurrogateTreeModel" 63 "SurrogateTreeModel" "stays" "[Z" ∈ zn_TS := zn_in 671 (by decide +kernel) rfl
theorem zw_672 : Cond.fieldLink "SurrogateTreeModel" 203 "SurrogateTreeModel" "breaks" "I" ∈ zn_TS := zn_in 672 (by decide +kernel) rfl
theorem zw_673 : Cond.fieldLink "SurrogateTreeModel" 67 "SurrogateTreeModel" "breakTop" "[I" ∈ zn_TS := zn_in 673 (by decide +kernel) rfl
theorem zw_674 : Cond.fieldLink "SurrogateTreeModel" 70 "SurrogateTreeModel" "breakBottom" "[I" ∈ zn_TS := zn_in 674 (by decide +kernel) rfl
theorem zw_675 : Cond.lays "SurrogateTreeModel" "SurrogateTreeModel" "n" "I" ∈ zn_TS := zn_in 675 (by decide +kernel) rfl
theorem zw_677 : Cond.lays "SurrogateTreeModel" "SurrogateTreeModel" "value" "[I" ∈ zn_TS := zn_in 677 (by decide +kernel) rfl
theorem zw_679 : Cond.lays "SurrogateTreeModel" "SurrogateTreeModel" "own" "[I" ∈ zn_TS := zn_in 679 (by decide +kernel) rfl
theorem zw_681 : Cond.lays "SurrogateTreeModel" "SurrogateTreeModel" "weight" "[I" ∈ zn_TS := zn_in 681 (by decide +kernel) rfl
theorem zw_683 : Cond.lays "SurrogateTreeModel" "SurrogateTreeModel" "vote" "[I" ∈ zn_TS := zn_in 683 (by decide +kernel) rfl
theorem zw_685 : Cond.lays "SurrogateTreeModel" "SurrogateTreeModel" "criterion" "I" ∈ zn_TS := zn_in 685 (by decide +kernel) rfl
theorem zw_687 : Cond.lays "SurrogateTreeModel" "SurrogateTreeModel" "limit" "I" ∈ zn_TS := zn_in 687 (by decide +kernel) rfl
theorem zw_689 : Cond.lays "SurrogateTreeModel" "SurrogateTreeModel" "leaf" "I" ∈ zn_TS := zn_in 689 (by decide +kernel) rfl
theorem zw_691 : Cond.lays "SurrogateTreeModel" "SurrogateTreeModel" "state" "[I" ∈ zn_TS := zn_in 691 (by decide +kernel) rfl
theorem zw_693 : Cond.lays "SurrogateTreeModel" "SurrogateTreeModel" "rows" "[I" ∈ zn_TS := zn_in 693 (by decide +kernel) rfl
theorem zw_695 : Cond.lays "SurrogateTreeModel" "SurrogateTreeModel" "feature" "[I" ∈ zn_TS := zn_in 695 (by decide +kernel) rfl
theorem zw_697 : Cond.lays "SurrogateTreeModel" "SurrogateTreeModel" "border" "[I" ∈ zn_TS := zn_in 697 (by decide +kernel) rfl
theorem zw_699 : Cond.lays "SurrogateTreeModel" "SurrogateTreeModel" "isCut" "Z" ∈ zn_TS := zn_in 699 (by decide +kernel) rfl
theorem zw_701 : Cond.lays "SurrogateTreeModel" "SurrogateTreeModel" "cutTop" "I" ∈ zn_TS := zn_in 701 (by decide +kernel) rfl
theorem zw_703 : Cond.lays "SurrogateTreeModel" "SurrogateTreeModel" "cutBottom" "I" ∈ zn_TS := zn_in 703 (by decide +kernel) rfl
theorem zw_705 : Cond.lays "SurrogateTreeModel" "SurrogateTreeModel" "top" "I" ∈ zn_TS := zn_in 705 (by decide +kernel) rfl
theorem zw_707 : Cond.lays "SurrogateTreeModel" "SurrogateTreeModel" "bottom" "I" ∈ zn_TS := zn_in 707 (by decide +kernel) rfl
theorem zw_709 : Cond.lays "SurrogateTreeModel" "SurrogateTreeModel" "bestFeature" "I" ∈ zn_TS := zn_in 709 (by decide +kernel) rfl
theorem zw_711 : Cond.lays "SurrogateTreeModel" "SurrogateTreeModel" "bestBorder" "I" ∈ zn_TS := zn_in 711 (by decide +kernel) rfl
theorem zw_713 : Cond.lays "SurrogateTreeModel" "SurrogateTreeModel" "count" "I" ∈ zn_TS := zn_in 713 (by decide +kernel) rfl
theorem zw_715 : Cond.lays "SurrogateTreeModel" "SurrogateTreeModel" "standFeature" "[I" ∈ zn_TS := zn_in 715 (by decide +kernel) rfl
theorem zw_717 : Cond.lays "SurrogateTreeModel" "SurrogateTreeModel" "standBorder" "[I" ∈ zn_TS := zn_in 717 (by decide +kernel) rfl
theorem zw_719 : Cond.lays "SurrogateTreeModel" "SurrogateTreeModel" "standTurned" "[I" ∈ zn_TS := zn_in 719 (by decide +kernel) rfl
theorem zw_721 : Cond.lays "SurrogateTreeModel" "SurrogateTreeModel" "standAgreed" "[I" ∈ zn_TS := zn_in 721 (by decide +kernel) rfl
theorem zw_723 : Cond.lays "SurrogateTreeModel" "SurrogateTreeModel" "oneBorder" "I" ∈ zn_TS := zn_in 723 (by decide +kernel) rfl
theorem zw_725 : Cond.lays "SurrogateTreeModel" "SurrogateTreeModel" "oneTurned" "I" ∈ zn_TS := zn_in 725 (by decide +kernel) rfl
theorem zw_727 : Cond.lays "SurrogateTreeModel" "SurrogateTreeModel" "oneAgreed" "I" ∈ zn_TS := zn_in 727 (by decide +kernel) rfl
theorem zw_729 : Cond.lays "SurrogateTreeModel" "SurrogateTreeModel" "errors" "[I" ∈ zn_TS := zn_in 729 (by decide +kernel) rfl
theorem zw_731 : Cond.lays "SurrogateTreeModel" "SurrogateTreeModel" "cost" "[J" ∈ zn_TS := zn_in 731 (by decide +kernel) rfl
theorem zw_733 : Cond.lays "SurrogateTreeModel" "SurrogateTreeModel" "leaves" "[I" ∈ zn_TS := zn_in 733 (by decide +kernel) rfl
theorem zw_735 : Cond.lays "SurrogateTreeModel" "SurrogateTreeModel" "stays" "[Z" ∈ zn_TS := zn_in 735 (by decide +kernel) rfl
theorem zw_737 : Cond.lays "SurrogateTreeModel" "SurrogateTreeModel" "breaks" "I" ∈ zn_TS := zn_in 737 (by decide +kernel) rfl
theorem zw_739 : Cond.lays "SurrogateTreeModel" "SurrogateTreeModel" "breakTop" "[I" ∈ zn_TS := zn_in 739 (by decide +kernel) rfl
theorem zw_741 : Cond.lays "SurrogateTreeModel" "SurrogateTreeModel" "breakBottom" "[I" ∈ zn_TS := zn_in 741 (by decide +kernel) rfl
theorem zw_744 : Cond.arrayClass .long ∈ zn_TS := zn_in 744 (by decide +kernel) rfl
theorem zw_745 : Cond.arrayClass .boolean ∈ zn_TS := zn_in 745 (by decide +kernel) rfl
theorem zw_746 : Cond.methodLink "SurrogateTreeLaw" 17 ⟨"SurrogateTreeModel", "addRow", "(IIII)I"⟩ ∈ zn_TS := zn_in 746 (by decide +kernel) rfl
theorem zw_747 : Cond.instanceMethod ⟨"SurrogateTreeModel", "addRow", "(IIII)I"⟩ ∈ zn_TS := zn_in 747 (by decide +kernel) rfl
theorem zw_748 : Cond.selects "SurrogateTreeModel" ⟨"SurrogateTreeModel", "addRow", "(IIII)I"⟩ ⟨"SurrogateTreeModel", "addRow", "(IIII)I"⟩ ∈ zn_TS := zn_in 748 (by decide +kernel) rfl
theorem zw_749 : Cond.code ⟨"SurrogateTreeModel", "addRow", "(IIII)I"⟩ prog_13_method_3_code 6 (some .int) ∈ zn_TS := zn_in 749 (by decide +kernel) rfl
theorem zw_750 : Cond.methodLink "SurrogateTreeModel" 83 ⟨"SurrogateTreeModel", "even", "()V"⟩ ∈ zn_TS := zn_in 750 (by decide +kernel) rfl
theorem zw_751 : Cond.instanceMethod ⟨"SurrogateTreeModel", "even", "()V"⟩ ∈ zn_TS := zn_in 751 (by decide +kernel) rfl
theorem zw_752 : Cond.selects "SurrogateTreeModel" ⟨"SurrogateTreeModel", "even", "()V"⟩ ⟨"SurrogateTreeModel", "even", "()V"⟩ ∈ zn_TS := zn_in 752 (by decide +kernel) rfl
theorem zw_753 : Cond.code ⟨"SurrogateTreeModel", "even", "()V"⟩ prog_13_method_6_code 2 none ∈ zn_TS := zn_in 753 (by decide +kernel) rfl
theorem zw_754 : Cond.methodLink "SurrogateTreeLaw" 22 ⟨"SurrogateTreeModel", "begin", "(III)Z"⟩ ∈ zn_TS := zn_in 754 (by decide +kernel) rfl
theorem zw_755 : Cond.instanceMethod ⟨"SurrogateTreeModel", "begin", "(III)Z"⟩ ∈ zn_TS := zn_in 755 (by decide +kernel) rfl
theorem zw_756 : Cond.selects "SurrogateTreeModel" ⟨"SurrogateTreeModel", "begin", "(III)Z"⟩ ⟨"SurrogateTreeModel", "begin", "(III)Z"⟩ ∈ zn_TS := zn_in 756 (by decide +kernel) rfl
theorem zw_757 : Cond.code ⟨"SurrogateTreeModel", "begin", "(III)Z"⟩ prog_13_method_4_code 4 (some .boolean) ∈ zn_TS := zn_in 757 (by decide +kernel) rfl
theorem zw_758 : Cond.methodLink "SurrogateTreeLaw" 29 ⟨"SurrogateTreeModel", "bag", "(J)I"⟩ ∈ zn_TS := zn_in 758 (by decide +kernel) rfl
theorem zw_759 : Cond.instanceMethod ⟨"SurrogateTreeModel", "bag", "(J)I"⟩ ∈ zn_TS := zn_in 759 (by decide +kernel) rfl
theorem zw_760 : Cond.selects "SurrogateTreeModel" ⟨"SurrogateTreeModel", "bag", "(J)I"⟩ ⟨"SurrogateTreeModel", "bag", "(J)I"⟩ ∈ zn_TS := zn_in 760 (by decide +kernel) rfl
theorem zw_761 : Cond.code ⟨"SurrogateTreeModel", "bag", "(J)I"⟩ prog_13_method_5_code 8 (some .int) ∈ zn_TS := zn_in 761 (by decide +kernel) rfl
theorem zw_762 : Cond.constantLong "SurrogateTreeModel" 89 7391840562913847605 ∈ zn_TS := zn_in 762 (by decide +kernel) rfl
theorem zw_763 : Cond.constantLong "SurrogateTreeModel" 91 1027 ∈ zn_TS := zn_in 763 (by decide +kernel) rfl
theorem zw_764 : Cond.methodLink "SurrogateTreeLaw" 33 ⟨"SurrogateTreeModel", "even", "()V"⟩ ∈ zn_TS := zn_in 764 (by decide +kernel) rfl
theorem zw_765 : Cond.methodLink "SurrogateTreeLaw" 38 ⟨"SurrogateTreeModel", "weight", "(I)I"⟩ ∈ zn_TS := zn_in 765 (by decide +kernel) rfl
theorem zw_766 : Cond.instanceMethod ⟨"SurrogateTreeModel", "weight", "(I)I"⟩ ∈ zn_TS := zn_in 766 (by decide +kernel) rfl
theorem zw_767 : Cond.selects "SurrogateTreeModel" ⟨"SurrogateTreeModel", "weight", "(I)I"⟩ ⟨"SurrogateTreeModel", "weight", "(I)I"⟩ ∈ zn_TS := zn_in 767 (by decide +kernel) rfl
theorem zw_768 : Cond.code ⟨"SurrogateTreeModel", "weight", "(I)I"⟩ prog_13_method_7_code 2 (some .int) ∈ zn_TS := zn_in 768 (by decide +kernel) rfl
theorem zw_769 : Cond.methodLink "SurrogateTreeLaw" 42 ⟨"SurrogateTreeModel", "grow", "(I)I"⟩ ∈ zn_TS := zn_in 769 (by decide +kernel) rfl
theorem zw_770 : Cond.instanceMethod ⟨"SurrogateTreeModel", "grow", "(I)I"⟩ ∈ zn_TS := zn_in 770 (by decide +kernel) rfl
theorem zw_771 : Cond.selects "SurrogateTreeModel" ⟨"SurrogateTreeModel", "grow", "(I)I"⟩ ⟨"SurrogateTreeModel", "grow", "(I)I"⟩ ∈ zn_TS := zn_in 771 (by decide +kernel) rfl
theorem zw_772 : Cond.code ⟨"SurrogateTreeModel", "grow", "(I)I"⟩ prog_13_method_26_code 3 (some .int) ∈ zn_TS := zn_in 772 (by decide +kernel) rfl
theorem zw_773 : Cond.methodLink "SurrogateTreeModel" 173 ⟨"SurrogateTreeModel", "waiting", "()I"⟩ ∈ zn_TS := zn_in 773 (by decide +kernel) rfl
theorem zw_775 : Cond.instanceMethod ⟨"SurrogateTreeModel", "waiting", "()I"⟩ ∈ zn_TS := zn_in 775 (by decide +kernel) rfl
theorem zw_776 : Cond.code ⟨"SurrogateTreeModel", "waiting", "()I"⟩ prog_13_method_23_code 3 (some .int) ∈ zn_TS := zn_in 776 (by decide +kernel) rfl
theorem zw_777 : Cond.methodLink "SurrogateTreeModel" 177 ⟨"SurrogateTreeModel", "turn", "(I)V"⟩ ∈ zn_TS := zn_in 777 (by decide +kernel) rfl
theorem zw_779 : Cond.instanceMethod ⟨"SurrogateTreeModel", "turn", "(I)V"⟩ ∈ zn_TS := zn_in 779 (by decide +kernel) rfl
theorem zw_780 : Cond.code ⟨"SurrogateTreeModel", "turn", "(I)V"⟩ prog_13_method_25_code 4 none ∈ zn_TS := zn_in 780 (by decide +kernel) rfl
theorem zw_781 : Cond.methodLink "SurrogateTreeModel" 162 ⟨"SurrogateTreeModel", "depthOf", "(I)I"⟩ ∈ zn_TS := zn_in 781 (by decide +kernel) rfl
theorem zw_782 : Cond.static ⟨"SurrogateTreeModel", "depthOf", "(I)I"⟩ ∈ zn_TS := zn_in 782 (by decide +kernel) rfl
theorem zw_783 : Cond.code ⟨"SurrogateTreeModel", "depthOf", "(I)I"⟩ prog_13_method_24_code 1 (some .int) ∈ zn_TS := zn_in 783 (by decide +kernel) rfl
theorem zw_784 : Cond.methodLink "SurrogateTreeModel" 165 ⟨"SurrogateTreeModel", "seek", "(I)Z"⟩ ∈ zn_TS := zn_in 784 (by decide +kernel) rfl
theorem zw_786 : Cond.instanceMethod ⟨"SurrogateTreeModel", "seek", "(I)Z"⟩ ∈ zn_TS := zn_in 786 (by decide +kernel) rfl
theorem zw_787 : Cond.code ⟨"SurrogateTreeModel", "seek", "(I)Z"⟩ prog_13_method_18_code 13 (some .boolean) ∈ zn_TS := zn_in 787 (by decide +kernel) rfl
theorem zw_788 : Cond.methodLink "SurrogateTreeModel" 118 ⟨"SurrogateTreeModel", "present", "(II)I"⟩ ∈ zn_TS := zn_in 788 (by decide +kernel) rfl
theorem zw_790 : Cond.instanceMethod ⟨"SurrogateTreeModel", "present", "(II)I"⟩ ∈ zn_TS := zn_in 790 (by decide +kernel) rfl
theorem zw_791 : Cond.code ⟨"SurrogateTreeModel", "present", "(II)I"⟩ prog_13_method_10_code 5 (some .int) ∈ zn_TS := zn_in 791 (by decide +kernel) rfl
theorem zw_792 : Cond.methodLink "SurrogateTreeModel" 93 ⟨"SurrogateTreeModel", "has", "(II)Z"⟩ ∈ zn_TS := zn_in 792 (by decide +kernel) rfl
theorem zw_793 : Cond.static ⟨"SurrogateTreeModel", "has", "(II)Z"⟩ ∈ zn_TS := zn_in 793 (by decide +kernel) rfl
theorem zw_794 : Cond.code ⟨"SurrogateTreeModel", "has", "(II)Z"⟩ prog_13_method_8_code 2 (some .boolean) ∈ zn_TS := zn_in 794 (by decide +kernel) rfl
theorem zw_795 : Cond.constant "SurrogateTreeModel" 97 (-2147483648) ∈ zn_TS := zn_in 795 (by decide +kernel) rfl
theorem zw_796 : Cond.methodLink "SurrogateTreeModel" 121 ⟨"SurrogateTreeModel", "next", "(IIII)Z"⟩ ∈ zn_TS := zn_in 796 (by decide +kernel) rfl
theorem zw_798 : Cond.instanceMethod ⟨"SurrogateTreeModel", "next", "(IIII)Z"⟩ ∈ zn_TS := zn_in 798 (by decide +kernel) rfl
theorem zw_799 : Cond.code ⟨"SurrogateTreeModel", "next", "(IIII)Z"⟩ prog_13_method_12_code 8 (some .boolean) ∈ zn_TS := zn_in 799 (by decide +kernel) rfl
theorem zw_800 : Cond.methodLink "SurrogateTreeModel" 125 ⟨"SurrogateTreeModel", "between", "(III)I"⟩ ∈ zn_TS := zn_in 800 (by decide +kernel) rfl
theorem zw_802 : Cond.instanceMethod ⟨"SurrogateTreeModel", "between", "(III)I"⟩ ∈ zn_TS := zn_in 802 (by decide +kernel) rfl
theorem zw_803 : Cond.code ⟨"SurrogateTreeModel", "between", "(III)I"⟩ prog_13_method_13_code 4 (some .int) ∈ zn_TS := zn_in 803 (by decide +kernel) rfl
theorem zw_804 : Cond.methodLink "SurrogateTreeModel" 129 ⟨"SurrogateTreeModel", "upTo", "(III)I"⟩ ∈ zn_TS := zn_in 804 (by decide +kernel) rfl
theorem zw_806 : Cond.instanceMethod ⟨"SurrogateTreeModel", "upTo", "(III)I"⟩ ∈ zn_TS := zn_in 806 (by decide +kernel) rfl
theorem zw_807 : Cond.code ⟨"SurrogateTreeModel", "upTo", "(III)I"⟩ prog_13_method_11_code 6 (some .int) ∈ zn_TS := zn_in 807 (by decide +kernel) rfl
theorem zw_808 : Cond.methodLink "SurrogateTreeModel" 98 ⟨"SurrogateTreeModel", "weigh", "(II)I"⟩ ∈ zn_TS := zn_in 808 (by decide +kernel) rfl
theorem zw_810 : Cond.instanceMethod ⟨"SurrogateTreeModel", "weigh", "(II)I"⟩ ∈ zn_TS := zn_in 810 (by decide +kernel) rfl
theorem zw_811 : Cond.code ⟨"SurrogateTreeModel", "weigh", "(II)I"⟩ prog_13_method_9_code 5 (some .int) ∈ zn_TS := zn_in 811 (by decide +kernel) rfl
theorem zw_812 : Cond.methodLink "SurrogateTreeModel" 132 ⟨"SurrogateTreeModel", "gainOf", "(II)V"⟩ ∈ zn_TS := zn_in 812 (by decide +kernel) rfl
theorem zw_814 : Cond.instanceMethod ⟨"SurrogateTreeModel", "gainOf", "(II)V"⟩ ∈ zn_TS := zn_in 814 (by decide +kernel) rfl
theorem zw_815 : Cond.code ⟨"SurrogateTreeModel", "gainOf", "(II)V"⟩ prog_13_method_17_code 10 none ∈ zn_TS := zn_in 815 (by decide +kernel) rfl
theorem zw_816 : Cond.methodLink "SurrogateTreeModel" 106 ⟨"SurrogateTreeModel", "greatest", "(I)I"⟩ ∈ zn_TS := zn_in 816 (by decide +kernel) rfl
theorem zw_818 : Cond.instanceMethod ⟨"SurrogateTreeModel", "greatest", "(I)I"⟩ ∈ zn_TS := zn_in 818 (by decide +kernel) rfl
theorem zw_819 : Cond.code ⟨"SurrogateTreeModel", "greatest", "(I)I"⟩ prog_13_method_16_code 2 (some .int) ∈ zn_TS := zn_in 819 (by decide +kernel) rfl
theorem zw_820 : Cond.methodLink "SurrogateTreeModel" 102 ⟨"SurrogateTreeModel", "classIn", "(I)I"⟩ ∈ zn_TS := zn_in 820 (by decide +kernel) rfl
theorem zw_822 : Cond.instanceMethod ⟨"SurrogateTreeModel", "classIn", "(I)I"⟩ ∈ zn_TS := zn_in 822 (by decide +kernel) rfl
theorem zw_823 : Cond.code ⟨"SurrogateTreeModel", "classIn", "(I)I"⟩ prog_13_method_14_code 4 (some .int) ∈ zn_TS := zn_in 823 (by decide +kernel) rfl
theorem zw_824 : Cond.methodLink "SurrogateTreeModel" 169 ⟨"SurrogateTreeModel", "goes", "(IIII)I"⟩ ∈ zn_TS := zn_in 824 (by decide +kernel) rfl
theorem zw_826 : Cond.instanceMethod ⟨"SurrogateTreeModel", "goes", "(IIII)I"⟩ ∈ zn_TS := zn_in 826 (by decide +kernel) rfl
theorem zw_827 : Cond.code ⟨"SurrogateTreeModel", "goes", "(IIII)I"⟩ prog_13_method_22_code 11 (some .int) ∈ zn_TS := zn_in 827 (by decide +kernel) rfl
theorem zw_828 : Cond.methodLink "SurrogateTreeModel" 158 ⟨"SurrogateTreeModel", "standIns", "(I)V"⟩ ∈ zn_TS := zn_in 828 (by decide +kernel) rfl
theorem zw_830 : Cond.instanceMethod ⟨"SurrogateTreeModel", "standIns", "(I)V"⟩ ∈ zn_TS := zn_in 830 (by decide +kernel) rfl
theorem zw_831 : Cond.code ⟨"SurrogateTreeModel", "standIns", "(I)V"⟩ prog_13_method_21_code 4 none ∈ zn_TS := zn_in 831 (by decide +kernel) rfl
theorem zw_832 : Cond.methodLink "SurrogateTreeModel" 155 ⟨"SurrogateTreeModel", "standIn", "(II)Z"⟩ ∈ zn_TS := zn_in 832 (by decide +kernel) rfl
theorem zw_834 : Cond.instanceMethod ⟨"SurrogateTreeModel", "standIn", "(II)Z"⟩ ∈ zn_TS := zn_in 834 (by decide +kernel) rfl
theorem zw_835 : Cond.code ⟨"SurrogateTreeModel", "standIn", "(II)Z"⟩ prog_13_method_19_code 15 (some .boolean) ∈ zn_TS := zn_in 835 (by decide +kernel) rfl
theorem zw_836 : Cond.methodLink "SurrogateTreeModel" 142 ⟨"SurrogateTreeModel", "consider", "(III)V"⟩ ∈ zn_TS := zn_in 836 (by decide +kernel) rfl
theorem zw_838 : Cond.instanceMethod ⟨"SurrogateTreeModel", "consider", "(III)V"⟩ ∈ zn_TS := zn_in 838 (by decide +kernel) rfl
theorem zw_839 : Cond.code ⟨"SurrogateTreeModel", "consider", "(III)V"⟩ prog_13_method_20_code 5 none ∈ zn_TS := zn_in 839 (by decide +kernel) rfl
theorem zw_840 : Cond.methodLink "SurrogateTreeLaw" 46 ⟨"SurrogateTreeModel", "kind", "(I)I"⟩ ∈ zn_TS := zn_in 840 (by decide +kernel) rfl
theorem zw_841 : Cond.instanceMethod ⟨"SurrogateTreeModel", "kind", "(I)I"⟩ ∈ zn_TS := zn_in 841 (by decide +kernel) rfl
theorem zw_842 : Cond.selects "SurrogateTreeModel" ⟨"SurrogateTreeModel", "kind", "(I)I"⟩ ⟨"SurrogateTreeModel", "kind", "(I)I"⟩ ∈ zn_TS := zn_in 842 (by decide +kernel) rfl
theorem zw_843 : Cond.code ⟨"SurrogateTreeModel", "kind", "(I)I"⟩ prog_13_method_29_code 3 (some .int) ∈ zn_TS := zn_in 843 (by decide +kernel) rfl
theorem zw_844 : Cond.methodLink "SurrogateTreeModel" 183 ⟨"SurrogateTreeModel", "findErrors", "()V"⟩ ∈ zn_TS := zn_in 844 (by decide +kernel) rfl
theorem zw_846 : Cond.instanceMethod ⟨"SurrogateTreeModel", "findErrors", "()V"⟩ ∈ zn_TS := zn_in 846 (by decide +kernel) rfl
theorem zw_847 : Cond.code ⟨"SurrogateTreeModel", "findErrors", "()V"⟩ prog_13_method_27_code 2 none ∈ zn_TS := zn_in 847 (by decide +kernel) rfl
theorem zw_848 : Cond.methodLink "SurrogateTreeModel" 180 ⟨"SurrogateTreeModel", "errorIn", "(I)I"⟩ ∈ zn_TS := zn_in 848 (by decide +kernel) rfl
theorem zw_850 : Cond.instanceMethod ⟨"SurrogateTreeModel", "errorIn", "(I)I"⟩ ∈ zn_TS := zn_in 850 (by decide +kernel) rfl
theorem zw_851 : Cond.code ⟨"SurrogateTreeModel", "errorIn", "(I)I"⟩ prog_13_method_15_code 2 (some .int) ∈ zn_TS := zn_in 851 (by decide +kernel) rfl
theorem zw_852 : Cond.methodLink "SurrogateTreeModel" 192 ⟨"SurrogateTreeModel", "shape", "(II)I"⟩ ∈ zn_TS := zn_in 852 (by decide +kernel) rfl
theorem zw_854 : Cond.instanceMethod ⟨"SurrogateTreeModel", "shape", "(II)I"⟩ ∈ zn_TS := zn_in 854 (by decide +kernel) rfl
theorem zw_855 : Cond.code ⟨"SurrogateTreeModel", "shape", "(II)I"⟩ prog_13_method_28_code 6 (some .int) ∈ zn_TS := zn_in 855 (by decide +kernel) rfl
theorem zw_856 : Cond.methodLink "SurrogateTreeLaw" 51 ⟨"SurrogateTreeModel", "rule", "(II)I"⟩ ∈ zn_TS := zn_in 856 (by decide +kernel) rfl
theorem zw_857 : Cond.instanceMethod ⟨"SurrogateTreeModel", "rule", "(II)I"⟩ ∈ zn_TS := zn_in 857 (by decide +kernel) rfl
theorem zw_858 : Cond.selects "SurrogateTreeModel" ⟨"SurrogateTreeModel", "rule", "(II)I"⟩ ⟨"SurrogateTreeModel", "rule", "(II)I"⟩ ∈ zn_TS := zn_in 858 (by decide +kernel) rfl
theorem zw_859 : Cond.code ⟨"SurrogateTreeModel", "rule", "(II)I"⟩ prog_13_method_30_code 3 (some .int) ∈ zn_TS := zn_in 859 (by decide +kernel) rfl
theorem zw_860 : Cond.methodLink "SurrogateTreeModel" 195 ⟨"SurrogateTreeModel", "kind", "(I)I"⟩ ∈ zn_TS := zn_in 860 (by decide +kernel) rfl
theorem zw_861 : Cond.methodLink "SurrogateTreeLaw" 55 ⟨"SurrogateTreeModel", "threshold", "(II)I"⟩ ∈ zn_TS := zn_in 861 (by decide +kernel) rfl
theorem zw_862 : Cond.instanceMethod ⟨"SurrogateTreeModel", "threshold", "(II)I"⟩ ∈ zn_TS := zn_in 862 (by decide +kernel) rfl
theorem zw_863 : Cond.selects "SurrogateTreeModel" ⟨"SurrogateTreeModel", "threshold", "(II)I"⟩ ⟨"SurrogateTreeModel", "threshold", "(II)I"⟩ ∈ zn_TS := zn_in 863 (by decide +kernel) rfl
theorem zw_864 : Cond.code ⟨"SurrogateTreeModel", "threshold", "(II)I"⟩ prog_13_method_31_code 3 (some .int) ∈ zn_TS := zn_in 864 (by decide +kernel) rfl
theorem zw_865 : Cond.methodLink "SurrogateTreeModel" 198 ⟨"SurrogateTreeModel", "rule", "(II)I"⟩ ∈ zn_TS := zn_in 865 (by decide +kernel) rfl
theorem zw_866 : Cond.methodLink "SurrogateTreeLaw" 60 ⟨"SurrogateTreeModel", "gain", "(I)J"⟩ ∈ zn_TS := zn_in 866 (by decide +kernel) rfl
theorem zw_867 : Cond.instanceMethod ⟨"SurrogateTreeModel", "gain", "(I)J"⟩ ∈ zn_TS := zn_in 867 (by decide +kernel) rfl
theorem zw_868 : Cond.selects "SurrogateTreeModel" ⟨"SurrogateTreeModel", "gain", "(I)J"⟩ ⟨"SurrogateTreeModel", "gain", "(I)J"⟩ ∈ zn_TS := zn_in 868 (by decide +kernel) rfl
theorem zw_869 : Cond.code ⟨"SurrogateTreeModel", "gain", "(I)J"⟩ prog_13_method_32_code 5 (some .long) ∈ zn_TS := zn_in 869 (by decide +kernel) rfl
theorem zw_870 : Cond.constantLong "SurrogateTreeModel" 201 4096 ∈ zn_TS := zn_in 870 (by decide +kernel) rfl
theorem zw_871 : Cond.methodLink "SurrogateTreeLaw" 64 ⟨"SurrogateTreeModel", "rowsOf", "(I)I"⟩ ∈ zn_TS := zn_in 871 (by decide +kernel) rfl
theorem zw_872 : Cond.instanceMethod ⟨"SurrogateTreeModel", "rowsOf", "(I)I"⟩ ∈ zn_TS := zn_in 872 (by decide +kernel) rfl
theorem zw_873 : Cond.selects "SurrogateTreeModel" ⟨"SurrogateTreeModel", "rowsOf", "(I)I"⟩ ⟨"SurrogateTreeModel", "rowsOf", "(I)I"⟩ ∈ zn_TS := zn_in 873 (by decide +kernel) rfl
theorem zw_874 : Cond.code ⟨"SurrogateTreeModel", "rowsOf", "(I)I"⟩ prog_13_method_33_code 2 (some .int) ∈ zn_TS := zn_in 874 (by decide +kernel) rfl
theorem zw_875 : Cond.methodLink "SurrogateTreeLaw" 68 ⟨"SurrogateTreeModel", "classOf", "(I)I"⟩ ∈ zn_TS := zn_in 875 (by decide +kernel) rfl
theorem zw_876 : Cond.instanceMethod ⟨"SurrogateTreeModel", "classOf", "(I)I"⟩ ∈ zn_TS := zn_in 876 (by decide +kernel) rfl
theorem zw_877 : Cond.selects "SurrogateTreeModel" ⟨"SurrogateTreeModel", "classOf", "(I)I"⟩ ⟨"SurrogateTreeModel", "classOf", "(I)I"⟩ ∈ zn_TS := zn_in 877 (by decide +kernel) rfl
theorem zw_878 : Cond.code ⟨"SurrogateTreeModel", "classOf", "(I)I"⟩ prog_13_method_34_code 2 (some .int) ∈ zn_TS := zn_in 878 (by decide +kernel) rfl
theorem zw_879 : Cond.methodLink "SurrogateTreeLaw" 72 ⟨"SurrogateTreeModel", "error", "(I)I"⟩ ∈ zn_TS := zn_in 879 (by decide +kernel) rfl
theorem zw_880 : Cond.instanceMethod ⟨"SurrogateTreeModel", "error", "(I)I"⟩ ∈ zn_TS := zn_in 880 (by decide +kernel) rfl
theorem zw_881 : Cond.selects "SurrogateTreeModel" ⟨"SurrogateTreeModel", "error", "(I)I"⟩ ⟨"SurrogateTreeModel", "error", "(I)I"⟩ ∈ zn_TS := zn_in 881 (by decide +kernel) rfl
theorem zw_882 : Cond.code ⟨"SurrogateTreeModel", "error", "(I)I"⟩ prog_13_method_35_code 2 (some .int) ∈ zn_TS := zn_in 882 (by decide +kernel) rfl
theorem zw_883 : Cond.methodLink "SurrogateTreeLaw" 77 ⟨"SurrogateTreeModel", "reach", "(III)I"⟩ ∈ zn_TS := zn_in 883 (by decide +kernel) rfl
theorem zw_884 : Cond.instanceMethod ⟨"SurrogateTreeModel", "reach", "(III)I"⟩ ∈ zn_TS := zn_in 884 (by decide +kernel) rfl
theorem zw_885 : Cond.selects "SurrogateTreeModel" ⟨"SurrogateTreeModel", "reach", "(III)I"⟩ ⟨"SurrogateTreeModel", "reach", "(III)I"⟩ ∈ zn_TS := zn_in 885 (by decide +kernel) rfl
theorem zw_886 : Cond.code ⟨"SurrogateTreeModel", "reach", "(III)I"⟩ prog_13_method_36_code 6 (some .int) ∈ zn_TS := zn_in 886 (by decide +kernel) rfl
theorem zw_887 : Cond.methodLink "SurrogateTreeLaw" 81 ⟨"SurrogateTreeModel", "cut", "(II)I"⟩ ∈ zn_TS := zn_in 887 (by decide +kernel) rfl
theorem zw_888 : Cond.instanceMethod ⟨"SurrogateTreeModel", "cut", "(II)I"⟩ ∈ zn_TS := zn_in 888 (by decide +kernel) rfl
theorem zw_889 : Cond.selects "SurrogateTreeModel" ⟨"SurrogateTreeModel", "cut", "(II)I"⟩ ⟨"SurrogateTreeModel", "cut", "(II)I"⟩ ∈ zn_TS := zn_in 889 (by decide +kernel) rfl
theorem zw_890 : Cond.code ⟨"SurrogateTreeModel", "cut", "(II)I"⟩ prog_13_method_37_code 5 (some .int) ∈ zn_TS := zn_in 890 (by decide +kernel) rfl
theorem zw_891 : Cond.methodLink "SurrogateTreeLaw" 85 ⟨"SurrogateTreeModel", "breakAt", "(I)I"⟩ ∈ zn_TS := zn_in 891 (by decide +kernel) rfl
theorem zw_892 : Cond.instanceMethod ⟨"SurrogateTreeModel", "breakAt", "(I)I"⟩ ∈ zn_TS := zn_in 892 (by decide +kernel) rfl
theorem zw_893 : Cond.selects "SurrogateTreeModel" ⟨"SurrogateTreeModel", "breakAt", "(I)I"⟩ ⟨"SurrogateTreeModel", "breakAt", "(I)I"⟩ ∈ zn_TS := zn_in 893 (by decide +kernel) rfl
theorem zw_894 : Cond.code ⟨"SurrogateTreeModel", "breakAt", "(I)I"⟩ prog_13_method_41_code 4 (some .int) ∈ zn_TS := zn_in 894 (by decide +kernel) rfl
theorem zw_895 : Cond.methodLink "SurrogateTreeModel" 206 ⟨"SurrogateTreeModel", "lowest", "(II)Z"⟩ ∈ zn_TS := zn_in 895 (by decide +kernel) rfl
theorem zw_896 : Cond.static ⟨"SurrogateTreeModel", "lowest", "(II)Z"⟩ ∈ zn_TS := zn_in 896 (by decide +kernel) rfl
theorem zw_897 : Cond.code ⟨"SurrogateTreeModel", "lowest", "(II)Z"⟩ prog_13_method_40_code 4 (some .boolean) ∈ zn_TS := zn_in 897 (by decide +kernel) rfl
theorem zw_898 : Cond.methodLink "SurrogateTreeModel" 209 ⟨"SurrogateTreeModel", "breaksAt", "(II)Z"⟩ ∈ zn_TS := zn_in 898 (by decide +kernel) rfl
theorem zw_900 : Cond.instanceMethod ⟨"SurrogateTreeModel", "breaksAt", "(II)Z"⟩ ∈ zn_TS := zn_in 900 (by decide +kernel) rfl
theorem zw_901 : Cond.code ⟨"SurrogateTreeModel", "breaksAt", "(II)Z"⟩ prog_13_method_38_code 4 (some .boolean) ∈ zn_TS := zn_in 901 (by decide +kernel) rfl
theorem zw_902 : Cond.methodLink "SurrogateTreeModel" 212 ⟨"SurrogateTreeModel", "insert", "(II)V"⟩ ∈ zn_TS := zn_in 902 (by decide +kernel) rfl
theorem zw_904 : Cond.instanceMethod ⟨"SurrogateTreeModel", "insert", "(II)V"⟩ ∈ zn_TS := zn_in 904 (by decide +kernel) rfl
theorem zw_905 : Cond.code ⟨"SurrogateTreeModel", "insert", "(II)V"⟩ prog_13_method_39_code 4 none ∈ zn_TS := zn_in 905 (by decide +kernel) rfl
theorem zw_906 : Cond.methodLink "SurrogateTreeLaw" 90 ⟨"SurrogateTreeModel", "tally", "()I"⟩ ∈ zn_TS := zn_in 906 (by decide +kernel) rfl
theorem zw_907 : Cond.instanceMethod ⟨"SurrogateTreeModel", "tally", "()I"⟩ ∈ zn_TS := zn_in 907 (by decide +kernel) rfl
theorem zw_908 : Cond.selects "SurrogateTreeModel" ⟨"SurrogateTreeModel", "tally", "()I"⟩ ⟨"SurrogateTreeModel", "tally", "()I"⟩ ∈ zn_TS := zn_in 908 (by decide +kernel) rfl
theorem zw_909 : Cond.code ⟨"SurrogateTreeModel", "tally", "()I"⟩ prog_13_method_42_code 4 (some .int) ∈ zn_TS := zn_in 909 (by decide +kernel) rfl
theorem zw_910 : Cond.methodLink "SurrogateTreeModel" 215 ⟨"SurrogateTreeModel", "reach", "(III)I"⟩ ∈ zn_TS := zn_in 910 (by decide +kernel) rfl
theorem zw_911 : Cond.methodLink "SurrogateTreeLaw" 94 ⟨"SurrogateTreeModel", "votes", "(II)I"⟩ ∈ zn_TS := zn_in 911 (by decide +kernel) rfl
theorem zw_912 : Cond.instanceMethod ⟨"SurrogateTreeModel", "votes", "(II)I"⟩ ∈ zn_TS := zn_in 912 (by decide +kernel) rfl
theorem zw_913 : Cond.selects "SurrogateTreeModel" ⟨"SurrogateTreeModel", "votes", "(II)I"⟩ ⟨"SurrogateTreeModel", "votes", "(II)I"⟩ ∈ zn_TS := zn_in 913 (by decide +kernel) rfl
theorem zw_914 : Cond.code ⟨"SurrogateTreeModel", "votes", "(II)I"⟩ prog_13_method_43_code 3 (some .int) ∈ zn_TS := zn_in 914 (by decide +kernel) rfl
theorem zw_915 : Cond.methodLink "SurrogateTreeLaw" 98 ⟨"SurrogateTreeModel", "wrong", "()I"⟩ ∈ zn_TS := zn_in 915 (by decide +kernel) rfl
theorem zw_916 : Cond.instanceMethod ⟨"SurrogateTreeModel", "wrong", "()I"⟩ ∈ zn_TS := zn_in 916 (by decide +kernel) rfl
theorem zw_917 : Cond.selects "SurrogateTreeModel" ⟨"SurrogateTreeModel", "wrong", "()I"⟩ ⟨"SurrogateTreeModel", "wrong", "()I"⟩ ∈ zn_TS := zn_in 917 (by decide +kernel) rfl
theorem zw_918 : Cond.code ⟨"SurrogateTreeModel", "wrong", "()I"⟩ prog_13_method_44_code 5 (some .int) ∈ zn_TS := zn_in 918 (by decide +kernel) rfl
theorem zw_919 : Cond.constantLong "SurrogateTreeLaw" 23 4294967295 ∈ zn_TS := zn_in 919 (by decide +kernel) rfl
theorem zn_uws0 : ∀ w ∈ u_ws (zn_C 0) (zn_T 0) (zn_n 0), w ∈ zn_TS := by
  intro w hw
  obtain ⟨k, hk, rfl⟩ := List.mem_map.mp hw
  have hk : k < 13 := List.mem_range.mp hk
  match k, hk with
  | 0, _ => exact zw_306
  | 1, _ => exact zw_308
  | 2, _ => exact zw_310
  | 3, _ => exact zw_312
  | 4, _ => exact zw_314
  | 5, _ => exact zw_316
  | 6, _ => exact zw_318
  | 7, _ => exact zw_320
  | 8, _ => exact zw_322
  | 9, _ => exact zw_324
  | 10, _ => exact zw_326
  | 11, _ => exact zw_328
  | 12, _ => exact zw_330
theorem zn_uws1 : ∀ w ∈ u_ws (zn_C 1) (zn_T 1) (zn_n 1), w ∈ zn_TS := by
  intro w hw
  obtain ⟨k, hk, rfl⟩ := List.mem_map.mp hw
  have hk : k < 4 := List.mem_range.mp hk
  match k, hk with
  | 0, _ => exact zw_43
  | 1, _ => exact zw_45
  | 2, _ => exact zw_47
  | 3, _ => exact zw_49
theorem zn_uws2 : ∀ w ∈ u_ws (zn_C 2) (zn_T 2) (zn_n 2), w ∈ zn_TS := by
  intro w hw
  obtain ⟨k, hk, rfl⟩ := List.mem_map.mp hw
  have hk : k < 1 := List.mem_range.mp hk
  match k, hk with
  | 0, _ => exact zw_62
theorem zn_uws3 : ∀ w ∈ u_ws (zn_C 3) (zn_T 3) (zn_n 3), w ∈ zn_TS := by
  intro w hw
  obtain ⟨k, hk, rfl⟩ := List.mem_map.mp hw
  have hk : k < 9 := List.mem_range.mp hk
  match k, hk with
  | 0, _ => exact zw_143
  | 1, _ => exact zw_145
  | 2, _ => exact zw_147
  | 3, _ => exact zw_149
  | 4, _ => exact zw_151
  | 5, _ => exact zw_153
  | 6, _ => exact zw_155
  | 7, _ => exact zw_157
  | 8, _ => exact zw_159
theorem zn_uws4 : ∀ w ∈ u_ws (zn_C 4) (zn_T 4) (zn_n 4), w ∈ zn_TS := by
  intro w hw
  obtain ⟨k, hk, rfl⟩ := List.mem_map.mp hw
  have hk : k < 2 := List.mem_range.mp hk
  match k, hk with
  | 0, _ => exact zw_85
  | 1, _ => exact zw_87
theorem zn_uws5 : ∀ w ∈ u_ws (zn_C 5) (zn_T 5) (zn_n 5), w ∈ zn_TS := by
  intro w hw
  obtain ⟨k, hk, rfl⟩ := List.mem_map.mp hw
  have hk : k < 4 := List.mem_range.mp hk
  match k, hk with
  | 0, _ => exact zw_108
  | 1, _ => exact zw_110
  | 2, _ => exact zw_112
  | 3, _ => exact zw_114
theorem zn_uws6 : ∀ w ∈ u_ws (zn_C 6) (zn_T 6) (zn_n 6), w ∈ zn_TS := by
  intro w hw
  obtain ⟨k, hk, rfl⟩ := List.mem_map.mp hw
  have hk : k < 1 := List.mem_range.mp hk
  match k, hk with
  | 0, _ => exact zw_175
theorem zn_uws7 : ∀ w ∈ u_ws (zn_C 7) (zn_T 7) (zn_n 7), w ∈ zn_TS := by
  intro w hw
  obtain ⟨k, hk, rfl⟩ := List.mem_map.mp hw
  have hk : k < 6 := List.mem_range.mp hk
  match k, hk with
  | 0, _ => exact zw_205
  | 1, _ => exact zw_207
  | 2, _ => exact zw_209
  | 3, _ => exact zw_211
  | 4, _ => exact zw_213
  | 5, _ => exact zw_215
theorem zn_uws8 : ∀ w ∈ u_ws (zn_C 8) (zn_T 8) (zn_n 8), w ∈ zn_TS := by
  intro w hw
  obtain ⟨k, hk, rfl⟩ := List.mem_map.mp hw
  have hk : k < 2 := List.mem_range.mp hk
  match k, hk with
  | 0, _ => exact zw_192
  | 1, _ => exact zw_194
theorem zn_uws9 : ∀ w ∈ u_ws (zn_C 9) (zn_T 9) (zn_n 9), w ∈ zn_TS := by
  intro w hw
  obtain ⟨k, hk, rfl⟩ := List.mem_map.mp hw
  have hk : k < 2 := List.mem_range.mp hk
  match k, hk with
  | 0, _ => exact zw_230
  | 1, _ => exact zw_232
theorem zn_uws10 : ∀ w ∈ u_ws (zn_C 10) (zn_T 10) (zn_n 10), w ∈ zn_TS := by
  intro w hw
  obtain ⟨k, hk, rfl⟩ := List.mem_map.mp hw
  have hk : k < 6 := List.mem_range.mp hk
  match k, hk with
  | 0, _ => exact zw_252
  | 1, _ => exact zw_254
  | 2, _ => exact zw_256
  | 3, _ => exact zw_258
  | 4, _ => exact zw_260
  | 5, _ => exact zw_262
theorem zn_uws11 : ∀ w ∈ u_ws (zn_C 11) (zn_T 11) (zn_n 11), w ∈ zn_TS := by
  intro w hw
  obtain ⟨k, hk, rfl⟩ := List.mem_map.mp hw
  have hk : k < 34 := List.mem_range.mp hk
  match k, hk with
  | 0, _ => exact zw_675
  | 1, _ => exact zw_677
  | 2, _ => exact zw_679
  | 3, _ => exact zw_681
  | 4, _ => exact zw_683
  | 5, _ => exact zw_685
  | 6, _ => exact zw_687
  | 7, _ => exact zw_689
  | 8, _ => exact zw_691
  | 9, _ => exact zw_693
  | 10, _ => exact zw_695
  | 11, _ => exact zw_697
  | 12, _ => exact zw_699
  | 13, _ => exact zw_701
  | 14, _ => exact zw_703
  | 15, _ => exact zw_705
  | 16, _ => exact zw_707
  | 17, _ => exact zw_709
  | 18, _ => exact zw_711
  | 19, _ => exact zw_713
  | 20, _ => exact zw_715
  | 21, _ => exact zw_717
  | 22, _ => exact zw_719
  | 23, _ => exact zw_721
  | 24, _ => exact zw_723
  | 25, _ => exact zw_725
  | 26, _ => exact zw_727
  | 27, _ => exact zw_729
  | 28, _ => exact zw_731
  | 29, _ => exact zw_733
  | 30, _ => exact zw_735
  | 31, _ => exact zw_737
  | 32, _ => exact zw_739
  | 33, _ => exact zw_741
  | k + 34, h => exact absurd h (by omega)
theorem zn_uws (ci : Nat) (h : ci < zn_nc) : ∀ w ∈ u_ws (zn_C ci) (zn_T ci) (zn_n ci), w ∈ zn_TS := by
  match ci, h with
  | 0, _ => exact zn_uws0
  | 1, _ => exact zn_uws1
  | 2, _ => exact zn_uws2
  | 3, _ => exact zn_uws3
  | 4, _ => exact zn_uws4
  | 5, _ => exact zn_uws5
  | 6, _ => exact zn_uws6
  | 7, _ => exact zn_uws7
  | 8, _ => exact zn_uws8
  | 9, _ => exact zn_uws9
  | 10, _ => exact zn_uws10
  | 11, _ => exact zn_uws11
theorem zn_tyok0 : ∀ k, k < zn_n 0 → parseFieldDescriptor (zn_T 0 k).2.2.1 = some (zn_ty 0 k) := by decide +kernel
theorem zn_nm0 : ∀ a, a < zn_n 0 → ∀ b, b < zn_n 0 → a ≠ b → (zn_T 0 a).2.1 ≠ (zn_T 0 b).2.1 := by decide +kernel
theorem zn_tyok1 : ∀ k, k < zn_n 1 → parseFieldDescriptor (zn_T 1 k).2.2.1 = some (zn_ty 1 k) := by decide +kernel
theorem zn_nm1 : ∀ a, a < zn_n 1 → ∀ b, b < zn_n 1 → a ≠ b → (zn_T 1 a).2.1 ≠ (zn_T 1 b).2.1 := by decide +kernel
theorem zn_tyok2 : ∀ k, k < zn_n 2 → parseFieldDescriptor (zn_T 2 k).2.2.1 = some (zn_ty 2 k) := by decide +kernel
theorem zn_nm2 : ∀ a, a < zn_n 2 → ∀ b, b < zn_n 2 → a ≠ b → (zn_T 2 a).2.1 ≠ (zn_T 2 b).2.1 := by decide +kernel
theorem zn_tyok3 : ∀ k, k < zn_n 3 → parseFieldDescriptor (zn_T 3 k).2.2.1 = some (zn_ty 3 k) := by decide +kernel
theorem zn_nm3 : ∀ a, a < zn_n 3 → ∀ b, b < zn_n 3 → a ≠ b → (zn_T 3 a).2.1 ≠ (zn_T 3 b).2.1 := by decide +kernel
theorem zn_tyok4 : ∀ k, k < zn_n 4 → parseFieldDescriptor (zn_T 4 k).2.2.1 = some (zn_ty 4 k) := by decide +kernel
theorem zn_nm4 : ∀ a, a < zn_n 4 → ∀ b, b < zn_n 4 → a ≠ b → (zn_T 4 a).2.1 ≠ (zn_T 4 b).2.1 := by decide +kernel
theorem zn_tyok5 : ∀ k, k < zn_n 5 → parseFieldDescriptor (zn_T 5 k).2.2.1 = some (zn_ty 5 k) := by decide +kernel
theorem zn_nm5 : ∀ a, a < zn_n 5 → ∀ b, b < zn_n 5 → a ≠ b → (zn_T 5 a).2.1 ≠ (zn_T 5 b).2.1 := by decide +kernel
theorem zn_tyok6 : ∀ k, k < zn_n 6 → parseFieldDescriptor (zn_T 6 k).2.2.1 = some (zn_ty 6 k) := by decide +kernel
theorem zn_nm6 : ∀ a, a < zn_n 6 → ∀ b, b < zn_n 6 → a ≠ b → (zn_T 6 a).2.1 ≠ (zn_T 6 b).2.1 := by decide +kernel
theorem zn_tyok7 : ∀ k, k < zn_n 7 → parseFieldDescriptor (zn_T 7 k).2.2.1 = some (zn_ty 7 k) := by decide +kernel
theorem zn_nm7 : ∀ a, a < zn_n 7 → ∀ b, b < zn_n 7 → a ≠ b → (zn_T 7 a).2.1 ≠ (zn_T 7 b).2.1 := by decide +kernel
theorem zn_tyok8 : ∀ k, k < zn_n 8 → parseFieldDescriptor (zn_T 8 k).2.2.1 = some (zn_ty 8 k) := by decide +kernel
theorem zn_nm8 : ∀ a, a < zn_n 8 → ∀ b, b < zn_n 8 → a ≠ b → (zn_T 8 a).2.1 ≠ (zn_T 8 b).2.1 := by decide +kernel
theorem zn_tyok9 : ∀ k, k < zn_n 9 → parseFieldDescriptor (zn_T 9 k).2.2.1 = some (zn_ty 9 k) := by decide +kernel
theorem zn_nm9 : ∀ a, a < zn_n 9 → ∀ b, b < zn_n 9 → a ≠ b → (zn_T 9 a).2.1 ≠ (zn_T 9 b).2.1 := by decide +kernel
theorem zn_tyok10 : ∀ k, k < zn_n 10 → parseFieldDescriptor (zn_T 10 k).2.2.1 = some (zn_ty 10 k) := by decide +kernel
theorem zn_nm10 : ∀ a, a < zn_n 10 → ∀ b, b < zn_n 10 → a ≠ b → (zn_T 10 a).2.1 ≠ (zn_T 10 b).2.1 := by decide +kernel
theorem zn_tyok11 : ∀ k, k < zn_n 11 → parseFieldDescriptor (zn_T 11 k).2.2.1 = some (zn_ty 11 k) := by decide +kernel
theorem zn_nm11 : ∀ a, a < zn_n 11 → ∀ b, b < zn_n 11 → a ≠ b → (zn_T 11 a).2.1 ≠ (zn_T 11 b).2.1 := by decide +kernel
theorem zn_tyok (ci : Nat) (h : ci < zn_nc) : ∀ k, k < zn_n ci → parseFieldDescriptor (zn_T ci k).2.2.1 = some (zn_ty ci k) := by
  match ci, h with
  | 0, _ => exact zn_tyok0
  | 1, _ => exact zn_tyok1
  | 2, _ => exact zn_tyok2
  | 3, _ => exact zn_tyok3
  | 4, _ => exact zn_tyok4
  | 5, _ => exact zn_tyok5
  | 6, _ => exact zn_tyok6
  | 7, _ => exact zn_tyok7
  | 8, _ => exact zn_tyok8
  | 9, _ => exact zn_tyok9
  | 10, _ => exact zn_tyok10
  | 11, _ => exact zn_tyok11
theorem zn_nm (ci : Nat) (h : ci < zn_nc) : ∀ a, a < zn_n ci → ∀ b, b < zn_n ci → a ≠ b → (zn_T ci a).2.1 ≠ (zn_T ci b).2.1 := by
  match ci, h with
  | 0, _ => exact zn_nm0
  | 1, _ => exact zn_nm1
  | 2, _ => exact zn_nm2
  | 3, _ => exact zn_nm3
  | 4, _ => exact zn_nm4
  | 5, _ => exact zn_nm5
  | 6, _ => exact zn_nm6
  | 7, _ => exact zn_nm7
  | 8, _ => exact zn_nm8
  | 9, _ => exact zn_nm9
  | 10, _ => exact zn_nm10
  | 11, _ => exact zn_nm11
/-- words that go no farther by themselves -/
def zn_B (U : State) : Prop := va_AO "SurrogateTree$Node" U ∧ va_AO "SurrogateTree$StandIn" U ∧ va_Nw (.methodLinkNest "SurrogateTree$Node" 24 ⟨"SurrogateTree$StandIn", "<init>", "()V"⟩ "SurrogateTree") U ∧ va_Nw (.methodLinkNest "SurrogateTree$StandInSearch" 20 ⟨"SurrogateTree$StandIn", "<init>", "()V"⟩ "SurrogateTree") U
theorem zn_B_warm {s U : State} (hW : s.WarmedH U.vm) (h : zn_B s) : zn_B U := ⟨h.1.moved hW.alike, h.2.1.moved hW.alike, h.2.2.1.warmM hW, h.2.2.2.warmM hW⟩
theorem zn_B_same {u U : State} (e : u.vm = U.vm) (h : zn_B u) : zn_B U := ⟨va_AO.moved (e ▸ Vm.Alike.refl u.vm) h.1, va_AO.moved (e ▸ Vm.Alike.refl u.vm) h.2.1, h.2.2.1.same rfl e, h.2.2.2.same rfl e⟩
end
section
/-! Own layer, 1: the machine seen through one flat picture of all cells from a base on. K: what a cell is (0, class) or (1.., length); P: its references; V: its numbers. -/
abbrev zg_K : Type := Nat → Nat × Nat
abbrev zg_P : Type := Nat → Nat → Option Nat
abbrev zg_V : Type := Nat → Nat → Int
abbrev zg_Q : Type := Option Value → zg_K → Nat → zg_P → zg_V → Prop
/-- launch; base; class numbers; array classes -/
abbrev zg_C : Type := Launch × Nat × va_G × (Nat → ClassId)
/-- name, bytes, locals, answer -/
abbrev zg_M : Type := MethodName × ByteArray × Nat × Option FieldType
def zg_i (z : Int) : Value := .int (Int32.ofInt z)
def zg_l (z : Int) : Value := .long (Int64.ofInt z)
def zg_r (Γ : zg_C) (a : Nat) : Value := .ref (Γ.2.1 + a)
def zg_o (Γ : zg_C) (r : Option Nat) : Value := va_rf (r.map (fun a => Γ.2.1 + a))
def zg_fv (Γ : zg_C) (ty : FieldType) (z : Int) (r : Option Nat) : Value := match ty with
  | .int => zg_i z
  | .long => zg_l z
  | .boolean => zg_i z
  | _ => zg_o Γ r
def zg_fs (Γ : zg_C) (ci : Nat) (z : Nat → Int) (r : Nat → Option Nat) : List Value := (List.range (zn_n ci)).map (fun k => zg_fv Γ (zn_ty ci k) (z k) (r k))
def zg_e (Γ : zg_C) (kd : Nat × Nat) (z : Nat → Int) (r : Nat → Option Nat) : va_E := match kd.1 with
  | 0 => .inr (kd.2, zg_fs Γ kd.2 z r)
  | 1 => .inl (Γ.2.2.2 0, kd.2, .inl (fun j => Int32.ofInt (z j)))
  | 2 => .inl (Γ.2.2.2 1, kd.2, .inr (.inl (fun j => Int64.ofInt (z j))))
  | 3 => .inl (Γ.2.2.2 2, kd.2, .inl (fun j => Int32.ofInt (z j)))
  | t + 4 => .inl (Γ.2.2.2 (t + 3), kd.2, .inr (.inr (.inr (.inr (fun j => (r j).map (fun a => Γ.2.1 + a))))))
def zg_w (Γ : zg_C) (K : zg_K) (N : Nat) (P : zg_P) (V : zg_V) : va_W := (List.range N).map (fun a => (Γ.2.1 + a, zg_e Γ (K a) (V a) (P a)))
def zg_tys (Γ : zg_C) : List (ClassId × FieldType) := [(Γ.2.2.2 0, .int), (Γ.2.2.2 1, .long), (Γ.2.2.2 2, .boolean)] ++ (List.range zn_ra.length).map (fun t => (Γ.2.2.2 (t + 3), zn_ra.getD t .int))
def zg_d (Γ : zg_C) (K : zg_K) (N : Nat) (P : zg_P) (V : zg_V) (H : Heap) : Prop := va_P Γ.2.2.1 zn_cl (zg_w Γ K N P V) H ∧ H.size = Γ.2.1 + N
/-- what the tables say -/
def zg_T (Γ : zg_C) (U : State) : Prop := va_K Γ.2.2.1 zn_cl (zg_tys Γ) U ∧ zn_B U
abbrev zg_A (Γ : zg_C) : Nat → Prop := fun q => Γ.2.1 ≤ q
def zg_F (Γ : zg_C) (Q : zg_Q) : Array Value → State → Outcome → State → Prop := fun _ u oc t =>
  (∃ (r : Option Value) (K : zg_K) (N : Nat) (P : zg_P) (V : zg_V), oc = .returned r ∧ Q r K N P V ∧ zg_d Γ K N P V t.heap) ∧ va_F (zg_A Γ) u t
def zg_ws (μ : zg_M) : List Cond := .code μ.1 μ.2.1 μ.2.2.1 μ.2.2.2 :: zn_TS
def zg_rm (d mc ms : Nat) : Room := { frames := d, cells := mc, slots := ms, locals := 36 * d }
/-- a method's end -/
def zg_Ω (Γ : zg_C) (Q : zg_Q) (mc ms : Nat) : List Frame → Array Value → State → State → Prop := fun below args s => MQ below (zg_F Γ Q) args s mc ms (zg_A Γ)
def zg_lh (lz : Array Slot) (nL : Nat) (ls : List (Option Value)) : Prop := lz.size = nL ∧ lv_wf lz ∧ ∀ (i : Nat) (v : Value), ls[i]? = some (some v) → lz[i]? = some (.val v)
def zg_X (Γ : zg_C) (Ξ : State → Prop) (μ : zg_M) (p : Program) (s : State) (m : MethodId) (args : Array Value) (meth : Method) (c : Code) : Prop :=
  p.tables.exec = Jvm.exec ∧ c.code = μ.2.1 ∧ c.maxLocals = μ.2.2.1 ∧ meth.sig.returnType = μ.2.2.2 ∧ meth.locks = false ∧ (∀ w ∈ zn_TS, w.before args s = true) ∧ s.vm.findClass μ.1.cls = some m.cls ∧ meth.name = μ.1.name ∧ zg_T Γ s ∧ Γ.2.1 ≤ s.heap.size ∧ Ξ s
def zg_Y (Γ : zg_C) (nL : Nat) (R : Room) (bc bs : Nat) (ls : List (Option Value)) (K : zg_K) (N : Nat) (P : zg_P) (V : zg_V) (s : State) (H : Heap) (locs : List Loc) (cells slots : Nat) (lz : Array Slot) : Prop :=
  zg_lh lz nL ls ∧ zg_d Γ K N P V H ∧ va_S (zg_A Γ) s.heap H locs ∧ cells + bc ≤ R.cells ∧ slots + bs ≤ R.slots
/-- from this place of method μ, with these locals, stack and picture, the machine comes to an end with Ω -/
def zg_G (Γ : zg_C) (Ξ : State → Prop) (μ : zg_M) (R : Room) (Ω : List Frame → Array Value → State → State → Prop) (bc bs pc : Nat) (ls : List (Option Value)) (st : List Value) (K : zg_K) (N : Nat) (P : zg_P) (V : zg_V) : Prop :=
  ∀ (p : Program) (e : Env) (s : State) (m : MethodId) (args : Array Value) (below : List Frame) (meth : Method) (c : Code) (H : Heap) (locs : List Loc) (cells slots : Nat) (lz : Array Slot),
    zg_X Γ Ξ μ p s m args meth c → zg_Y Γ μ.2.2.1 R bc bs ls K N P V s H locs cells slots lz →
      W p Γ.1 e R s m args below meth c H locs cells slots (Ω below args s) (F0 m pc lz st)
/-- a method's contract -/
def zg_S (Γ : zg_C) (μ : zg_M) (d mc ms : Nat) (args : List Value) (K : zg_K) (N : Nat) (P : zg_P) (V : zg_V) (Q : zg_Q) : Prop :=
  Met Γ.1 μ.1 (zg_ws μ) (zg_rm d mc ms) (va_Pc args (fun U => zg_T Γ U ∧ zg_d Γ K N P V U.heap)) (zg_F Γ Q) mc ms (zg_A Γ)
def zg_u (V : zg_V) (a j : Nat) (x : Int) : zg_V := fun a' j' => if a' = a then if j' = j then x else V a' j' else V a' j'
def zg_up (P : zg_P) (a j : Nat) (x : Option Nat) : zg_P := fun a' j' => if a' = a then if j' = j then x else P a' j' else P a' j'
/-! ### the picture's list -/
theorem zg_w_at (Γ : zg_C) (K : zg_K) {N a : Nat} (P : zg_P) (V : zg_V) (h : a < N) : (zg_w Γ K N P V)[a]? = some (Γ.2.1 + a, zg_e Γ (K a) (V a) (P a)) := by
  simp [zg_w, List.getElem?_map, List.getElem?_range h]
theorem zg_w_set {Γ : zg_C} {K K' : zg_K} {N a : Nat} {P P' : zg_P} {V V' : zg_V} {ee : va_E} (h : a < N) (he : zg_e Γ (K' a) (V' a) (P' a) = ee) (ho : ∀ x, x ≠ a → K' x = K x ∧ V' x = V x ∧ P' x = P x) : (zg_w Γ K N P V).set a (Γ.2.1 + a, ee) = zg_w Γ K' N P' V' := by
  subst he
  apply List.ext_getElem?
  intro i
  rw [List.getElem?_set]
  by_cases hi : i < N
  · rw [zg_w_at Γ K' P' V' hi]
    by_cases e : a = i
    · subst e
      rw [if_pos rfl, if_pos (by simpa [zg_w] using h)]
    · rw [if_neg e, zg_w_at Γ K P V hi]
      obtain ⟨h1, h2, h3⟩ := ho i (fun q => e q.symm)
      rw [h1, h2, h3]
  · have h1 : (zg_w Γ K' N P' V')[i]? = none := by simp [zg_w]; omega
    have h2 : (zg_w Γ K N P V)[i]? = none := by simp [zg_w]; omega
    rw [h1, if_neg (by omega), h2]
theorem zg_w_D (Γ : zg_C) (K : zg_K) (N : Nat) (P : zg_P) (V : zg_V) : va_D (zg_A Γ) (zg_w Γ K N P V) := by
  refine ⟨fun i j x y hi hj he => ?_, fun k q hk => ?_⟩
  · have h1 : i < N := by have := (List.getElem?_eq_some_iff.mp hi).1; simpa [zg_w] using this
    have h2 : j < N := by have := (List.getElem?_eq_some_iff.mp hj).1; simpa [zg_w] using this
    rw [zg_w_at Γ K P V h1] at hi
    rw [zg_w_at Γ K P V h2] at hj
    cases hi
    cases hj
    have he' : Γ.2.1 + i = Γ.2.1 + j := he
    omega
  · have h1 : k < N := by have := (List.getElem?_eq_some_iff.mp hk).1; simpa [zg_w] using this
    rw [zg_w_at Γ K P V h1] at hk
    cases hk
    show Γ.2.1 ≤ Γ.2.1 + k
    omega
theorem zg_e0 {Γ : zg_C} {kd : Nat × Nat} {ci : Nat} (h : kd = (0, ci)) (z : Nat → Int) (r : Nat → Option Nat) : zg_e Γ kd z r = .inr (ci, zg_fs Γ ci z r) := by subst h; rfl
theorem zg_e1 {Γ : zg_C} {kd : Nat × Nat} {n : Nat} (h : kd = (1, n)) (z : Nat → Int) (r : Nat → Option Nat) : zg_e Γ kd z r = .inl (Γ.2.2.2 0, n, .inl (fun j => Int32.ofInt (z j))) := by subst h; rfl
theorem zg_e2 {Γ : zg_C} {kd : Nat × Nat} {n : Nat} (h : kd = (2, n)) (z : Nat → Int) (r : Nat → Option Nat) : zg_e Γ kd z r = .inl (Γ.2.2.2 1, n, .inr (.inl (fun j => Int64.ofInt (z j)))) := by subst h; rfl
theorem zg_e3 {Γ : zg_C} {kd : Nat × Nat} {n : Nat} (h : kd = (3, n)) (z : Nat → Int) (r : Nat → Option Nat) : zg_e Γ kd z r = .inl (Γ.2.2.2 2, n, .inl (fun j => Int32.ofInt (z j))) := by subst h; rfl
theorem zg_e4 {Γ : zg_C} {kd : Nat × Nat} {n t : Nat} (h : kd = (t + 4, n)) (z : Nat → Int) (r : Nat → Option Nat) : zg_e Γ kd z r = .inl (Γ.2.2.2 (t + 3), n, .inr (.inr (.inr (.inr (fun j => (r j).map (fun a => Γ.2.1 + a)))))) := by subst h; rfl
theorem zg_fs_at (Γ : zg_C) {ci k : Nat} (h : k < zn_n ci) (z : Nat → Int) (r : Nat → Option Nat) : (zg_fs Γ ci z r)[k]? = some (zg_fv Γ (zn_ty ci k) (z k) (r k)) := by
  simp [zg_fs, List.getElem?_map, List.getElem?_range h]
theorem zg_fs_len (Γ : zg_C) (ci : Nat) (z : Nat → Int) (r : Nat → Option Nat) : (zg_fs Γ ci z r).length = zn_n ci := by simp [zg_fs]
theorem zg_fs_set {Γ : zg_C} {ci k : Nat} {z z' : Nat → Int} {r r' : Nat → Option Nat} {v : Value} (h : k < zn_n ci) (hv : zg_fv Γ (zn_ty ci k) (z' k) (r' k) = v) (ho : ∀ x, x ≠ k → z' x = z x ∧ r' x = r x) : (zg_fs Γ ci z r).set k v = zg_fs Γ ci z' r' := by
  subst hv
  apply List.ext_getElem?
  intro i
  rw [List.getElem?_set]
  by_cases hi : i < zn_n ci
  · rw [zg_fs_at Γ hi z' r']
    by_cases e : k = i
    · subst e
      rw [if_pos rfl, if_pos (by rw [zg_fs_len]; exact h)]
    · rw [if_neg e, zg_fs_at Γ hi z r]
      obtain ⟨h1, h2⟩ := ho i (fun q => e q.symm)
      rw [h1, h2]
  · have h1 : (zg_fs Γ ci z' r')[i]? = none := by simp [zg_fs]; omega
    have h2 : (zg_fs Γ ci z r)[i]? = none := by simp [zg_fs]; omega
    rw [h1, if_neg (by omega), h2]
/-! ### numbers -/
theorem zg_lt {a b : Int} (ha : -2147483648 ≤ a ∧ a < 2147483648) (hb : -2147483648 ≤ b ∧ b < 2147483648) : Int32.ofInt a < Int32.ofInt b ↔ a < b := by
  rw [Int32.lt_iff_toInt_lt, Int32.toInt_ofInt_of_le (by omega) (by omega), Int32.toInt_ofInt_of_le (by omega) (by omega)]
theorem zg_le {a b : Int} (ha : -2147483648 ≤ a ∧ a < 2147483648) (hb : -2147483648 ≤ b ∧ b < 2147483648) : Int32.ofInt a ≤ Int32.ofInt b ↔ a ≤ b := by
  rw [Int32.le_iff_toInt_le, Int32.toInt_ofInt_of_le (by omega) (by omega), Int32.toInt_ofInt_of_le (by omega) (by omega)]
theorem zg_eq {a b : Int} (ha : -2147483648 ≤ a ∧ a < 2147483648) (hb : -2147483648 ≤ b ∧ b < 2147483648) : Int32.ofInt a = Int32.ofInt b ↔ a = b := by
  rw [← Int32.toInt_inj, Int32.toInt_ofInt_of_le (by omega) (by omega), Int32.toInt_ofInt_of_le (by omega) (by omega)]
theorem zg_z0 : (0 : Int32) = Int32.ofInt 0 := rfl
theorem zg_lt0 {a : Int} (ha : -2147483648 ≤ a ∧ a < 2147483648) : Int32.ofInt a < 0 ↔ a < 0 := by rw [zg_z0]; exact zg_lt ha (by omega)
theorem zg_0lt {a : Int} (ha : -2147483648 ≤ a ∧ a < 2147483648) : 0 < Int32.ofInt a ↔ 0 < a := by rw [zg_z0]; exact zg_lt (by omega) ha
theorem zg_le0 {a : Int} (ha : -2147483648 ≤ a ∧ a < 2147483648) : Int32.ofInt a ≤ 0 ↔ a ≤ 0 := by rw [zg_z0]; exact zg_le ha (by omega)
theorem zg_0le {a : Int} (ha : -2147483648 ≤ a ∧ a < 2147483648) : 0 ≤ Int32.ofInt a ↔ 0 ≤ a := by rw [zg_z0]; exact zg_le (by omega) ha
theorem zg_eq0 {a : Int} (ha : -2147483648 ≤ a ∧ a < 2147483648) : Int32.ofInt a = 0 ↔ a = 0 := by rw [zg_z0]; exact zg_eq ha (by omega)
theorem zg_nat {z : Int} {j : Nat} (hz : z = (j : Int)) (hj : j < 2147483648) : (Int32.ofInt z).toNatClampNeg = j := by
  subst hz
  rw [Int32.toNatClampNeg_ofInt_of_le (by omega) (by omega)]
  simp
theorem zg_in {z : Int} {j n : Nat} (hz : z = (j : Int)) (hj : j < n) (hn : n ≤ 2147483648) : vp_in (Int32.ofInt z) n := by
  intro h
  rcases h with h | h
  · rw [zg_lt0 (by omega)] at h
    omega
  · rw [zg_nat hz (by omega)] at h
    omega
/-! ### locals -/
def zg_pr (ls : List (Option Value)) : List (Nat × Value) := (List.range ls.length).filterMap (fun i => (ls[i]?.join).map (fun v => (i, v)))
theorem zg_pr_mem {ls : List (Option Value)} {i : Nat} {v : Value} : (i, v) ∈ zg_pr ls ↔ ls[i]? = some (some v) := by
  unfold zg_pr
  rw [List.mem_filterMap]
  constructor
  · rintro ⟨j, -, h⟩
    cases hj : ls[j]? with
    | none => rw [hj] at h; simp at h
    | some o =>
      cases o with
      | none => rw [hj] at h; simp at h
      | some w =>
        rw [hj] at h
        simp at h
        obtain ⟨h1, h2⟩ := h
        subst h1; subst h2
        exact hj
  · intro h
    refine ⟨i, List.mem_range.mpr (List.getElem?_eq_some_iff.mp h).1, ?_⟩
    rw [h]
    rfl
theorem zg_lh_has {lz : Array Slot} {nL : Nat} {ls : List (Option Value)} (h : zg_lh lz nL ls) : lv_has lz nL (zg_pr ls) := ⟨h.1, h.2.1, fun q hq => h.2.2 q.1 q.2 (zg_pr_mem.mp hq)⟩
theorem zg_lh_store {lz : Array Slot} {nL : Nat} {ls : List (Option Value)} {i : Nat} {v : Value} (hc : ∀ w, 0 < i → ls[i - 1]? = some (some w) → w.category = 1)
    (h : lv_has lz nL ((i, v) :: (zg_pr ls).filter (fun q => !(q.1 == i) && !(q.1 + 1 == i && q.2.category == 2)))) : zg_lh lz nL (ls.set i (some v)) := by
  refine ⟨h.1, h.2.1, fun j w hj => ?_⟩
  rw [List.getElem?_set] at hj
  by_cases e : i = j
  · subst e
    rw [if_pos rfl] at hj
    split at hj
    · cases hj
      exact h.2.2 (i, v) List.mem_cons_self
    · cases hj
  · rw [if_neg e] at hj
    refine h.2.2 (j, w) (List.mem_cons_of_mem _ (List.mem_filter.mpr ⟨zg_pr_mem.mpr hj, ?_⟩))
    have h1 : ¬ (j + 1 = i ∧ w.category = 2) := by
      rintro ⟨q1, q2⟩
      have := hc w (by omega) (by rw [← q1]; simpa using hj)
      omega
    simp only [Bool.and_eq_true, Bool.not_eq_true', beq_eq_false_iff_ne, ne_eq, Bool.and_eq_false_iff]
    refine ⟨fun q => e q.symm, ?_⟩
    by_cases q1 : j + 1 = i
    · exact Or.inr fun q2 => h1 ⟨q1, q2⟩
    · exact Or.inl q1
theorem zg_lh_store2 {lz : Array Slot} {nL : Nat} {ls : List (Option Value)} {i : Nat} {v : Value} (hc : ∀ w, 0 < i → ls[i - 1]? = some (some w) → w.category = 1)
    (h : lv_has lz nL ((i, v) :: (zg_pr ls).filter (fun q => !(q.1 == i) && (!(q.1 == i + 1) && !(q.1 + 1 == i && q.2.category == 2))))) : zg_lh lz nL ((ls.set i (some v)).set (i + 1) none) := by
  refine ⟨h.1, h.2.1, fun j w hj => ?_⟩
  rw [List.getElem?_set] at hj
  by_cases e1 : i + 1 = j
  · rw [if_pos e1] at hj
    split at hj <;> cases hj
  · rw [if_neg e1, List.getElem?_set] at hj
    by_cases e : i = j
    · subst e
      rw [if_pos rfl] at hj
      split at hj
      · cases hj
        exact h.2.2 (i, v) List.mem_cons_self
      · cases hj
    · rw [if_neg e] at hj
      refine h.2.2 (j, w) (List.mem_cons_of_mem _ (List.mem_filter.mpr ⟨zg_pr_mem.mpr hj, ?_⟩))
      have h1 : ¬ (j + 1 = i ∧ w.category = 2) := by
        rintro ⟨q1, q2⟩
        have := hc w (by omega) (by rw [← q1]; simpa using hj)
        omega
      simp only [Bool.and_eq_true, Bool.not_eq_true', beq_eq_false_iff_ne, ne_eq, Bool.and_eq_false_iff]
      refine ⟨fun q => e q.symm, fun q => e1 q.symm, ?_⟩
      by_cases q1 : j + 1 = i
      · exact Or.inr fun q2 => h1 ⟨q1, q2⟩
      · exact Or.inl q1
end
section
/-! Own layer, 2: rules, one an instruction (written by wip/gen/rules.py) -/
section ZG
variable {Γ : zg_C} {Ξ : State → Prop} {μ : zg_M} {R : Room} {Ω : List Frame → Array Value → State → State → Prop} {bc bs pc N : Nat} {ls : List (Option Value)} {st : List Value} {K : zg_K} {P : zg_P} {V : zg_V}
theorem zg_iconst {n : Int} (hd : decode μ.2.1 pc = .ok (.iconst n, 1))
    (k : zg_G Γ Ξ μ R Ω bc bs (pc + 1) ls (zg_i n :: st) K N P V) : zg_G Γ Ξ μ R Ω bc bs pc ls st K N P V := by
  intro p e s m args below meth c H locs cells slots lz X Y
  exact lv_iconst X.1 X.2.1 hd rfl (k p e s m args below meth c H locs cells slots lz X Y)
theorem zg_bipush {n : Int} (hd : decode μ.2.1 pc = .ok (.bipush n, 2)) (hv : (Int8.ofInt n).toInt32 = Int32.ofInt n)
    (k : zg_G Γ Ξ μ R Ω bc bs (pc + 2) ls (zg_i n :: st) K N P V) : zg_G Γ Ξ μ R Ω bc bs pc ls st K N P V := by
  intro p e s m args below meth c H locs cells slots lz X Y
  exact lv_bipush X.1 X.2.1 hd hv (k p e s m args below meth c H locs cells slots lz X Y)
theorem zg_sipush {n : Int} (hd : decode μ.2.1 pc = .ok (.sipush n, 3)) (hv : (Int16.ofInt n).toInt32 = Int32.ofInt n)
    (k : zg_G Γ Ξ μ R Ω bc bs (pc + 3) ls (zg_i n :: st) K N P V) : zg_G Γ Ξ μ R Ω bc bs pc ls st K N P V := by
  intro p e s m args below meth c H locs cells slots lz X Y
  exact lv_sipush X.1 X.2.1 hd hv (k p e s m args below meth c H locs cells slots lz X Y)
theorem zg_lconst {n : Fin 2} {z : Int} (hd : decode μ.2.1 pc = .ok (.lconst n, 1)) (hv : Int64.ofNat (n : Nat) = Int64.ofInt z)
    (k : zg_G Γ Ξ μ R Ω bc bs (pc + 1) ls (zg_l z :: st) K N P V) : zg_G Γ Ξ μ R Ω bc bs pc ls st K N P V := by
  intro p e s m args below meth c H locs cells slots lz X Y
  exact lv_lconst X.1 X.2.1 hd hv (k p e s m args below meth c H locs cells slots lz X Y)
theorem zg_ldc {ix : Nat} {v : Int32} (z : Int) (hd : decode μ.2.1 pc = .ok (.ldc ix, 2)) (hw : Cond.constant μ.1.cls ix v ∈ zn_TS) (hv : v = Int32.ofInt z)
    (k : zg_G Γ Ξ μ R Ω bc bs (pc + 2) ls (zg_i z :: st) K N P V) : zg_G Γ Ξ μ R Ω bc bs pc ls st K N P V := by
  intro p e s m args below meth c H locs cells slots lz X Y
  subst hv
  exact lv_ldc X.1 X.2.1 X.2.2.2.2.2.2.1 (X.2.2.2.2.2.1 _ hw) hd (k p e s m args below meth c H locs cells slots lz X Y)
theorem zg_ldc2 {ix : Nat} {v : Int64} (z : Int) (hd : decode μ.2.1 pc = .ok (.ldc2_w ix, 3)) (hw : Cond.constantLong μ.1.cls ix v ∈ zn_TS) (hv : v = Int64.ofInt z)
    (k : zg_G Γ Ξ μ R Ω bc bs (pc + 3) ls (zg_l z :: st) K N P V) : zg_G Γ Ξ μ R Ω bc bs pc ls st K N P V := by
  intro p e s m args below meth c H locs cells slots lz X Y
  subst hv
  exact lv_ldc2 X.1 X.2.1 X.2.2.2.2.2.2.1 (X.2.2.2.2.2.1 _ hw) hd (k p e s m args below meth c H locs cells slots lz X Y)
theorem zg_iadd {a b : Int} (hd : decode μ.2.1 pc = .ok (.iadd, 1))
    (k : zg_G Γ Ξ μ R Ω bc bs (pc + 1) ls (zg_i (a + b) :: st) K N P V) : zg_G Γ Ξ μ R Ω bc bs pc ls (zg_i b :: zg_i a :: st) K N P V := by
  intro p e s m args below meth c H locs cells slots lz X Y
  refine lv_iadd X.1 X.2.1 hd ?_
  have h := k p e s m args below meth c H locs cells slots lz X Y
  rw [zg_i, Int32.ofInt_add] at h
  exact h
theorem zg_isub {a b : Int} (hd : decode μ.2.1 pc = .ok (.isub, 1))
    (k : zg_G Γ Ξ μ R Ω bc bs (pc + 1) ls (zg_i (a - b) :: st) K N P V) : zg_G Γ Ξ μ R Ω bc bs pc ls (zg_i b :: zg_i a :: st) K N P V := by
  intro p e s m args below meth c H locs cells slots lz X Y
  refine lv_isub X.1 X.2.1 hd ?_
  have h := k p e s m args below meth c H locs cells slots lz X Y
  rw [zg_i, Int32.ofInt_sub] at h
  exact h
theorem zg_imul {a b : Int} (hd : decode μ.2.1 pc = .ok (.imul, 1))
    (k : zg_G Γ Ξ μ R Ω bc bs (pc + 1) ls (zg_i (a * b) :: st) K N P V) : zg_G Γ Ξ μ R Ω bc bs pc ls (zg_i b :: zg_i a :: st) K N P V := by
  intro p e s m args below meth c H locs cells slots lz X Y
  refine lv_imul X.1 X.2.1 hd ?_
  have h := k p e s m args below meth c H locs cells slots lz X Y
  rw [zg_i, Int32.ofInt_mul] at h
  exact h
theorem zg_ladd {a b : Int} (hd : decode μ.2.1 pc = .ok (.ladd, 1))
    (k : zg_G Γ Ξ μ R Ω bc bs (pc + 1) ls (zg_l (a + b) :: st) K N P V) : zg_G Γ Ξ μ R Ω bc bs pc ls (zg_l b :: zg_l a :: st) K N P V := by
  intro p e s m args below meth c H locs cells slots lz X Y
  refine lv_ladd X.1 X.2.1 hd ?_
  have h := k p e s m args below meth c H locs cells slots lz X Y
  rw [zg_l, Int64.ofInt_add] at h
  exact h
theorem zg_lsub {a b : Int} (hd : decode μ.2.1 pc = .ok (.lsub, 1))
    (k : zg_G Γ Ξ μ R Ω bc bs (pc + 1) ls (zg_l (a - b) :: st) K N P V) : zg_G Γ Ξ μ R Ω bc bs pc ls (zg_l b :: zg_l a :: st) K N P V := by
  intro p e s m args below meth c H locs cells slots lz X Y
  refine lv_lsub X.1 X.2.1 hd ?_
  have h := k p e s m args below meth c H locs cells slots lz X Y
  rw [zg_l, Int64.ofInt_sub] at h
  exact h
theorem zg_lmul {a b : Int} (hd : decode μ.2.1 pc = .ok (.lmul, 1))
    (k : zg_G Γ Ξ μ R Ω bc bs (pc + 1) ls (zg_l (a * b) :: st) K N P V) : zg_G Γ Ξ μ R Ω bc bs pc ls (zg_l b :: zg_l a :: st) K N P V := by
  intro p e s m args below meth c H locs cells slots lz X Y
  refine lv_lmul X.1 X.2.1 hd ?_
  have h := k p e s m args below meth c H locs cells slots lz X Y
  rw [zg_l, Int64.ofInt_mul] at h
  exact h
theorem zg_ineg {a : Int} (hd : decode μ.2.1 pc = .ok (.ineg, 1))
    (k : zg_G Γ Ξ μ R Ω bc bs (pc + 1) ls (zg_i (-a) :: st) K N P V) : zg_G Γ Ξ μ R Ω bc bs pc ls (zg_i a :: st) K N P V := by
  intro p e s m args below meth c H locs cells slots lz X Y
  refine lv_ineg X.1 X.2.1 hd ?_
  have h := k p e s m args below meth c H locs cells slots lz X Y
  rw [zg_i, Int32.ofInt_neg] at h
  exact h
theorem zg_lneg {a : Int} (hd : decode μ.2.1 pc = .ok (.lneg, 1))
    (k : zg_G Γ Ξ μ R Ω bc bs (pc + 1) ls (zg_l (-a) :: st) K N P V) : zg_G Γ Ξ μ R Ω bc bs pc ls (zg_l a :: st) K N P V := by
  intro p e s m args below meth c H locs cells slots lz X Y
  refine lv_lneg X.1 X.2.1 hd ?_
  have h := k p e s m args below meth c H locs cells slots lz X Y
  rw [zg_l, Int64.ofInt_neg] at h
  exact h
theorem zg_iandR {x y : Int32} (hd : decode μ.2.1 pc = .ok (.iand, 1))
    (k : zg_G Γ Ξ μ R Ω bc bs (pc + 1) ls (.int (x &&& y) :: st) K N P V) : zg_G Γ Ξ μ R Ω bc bs pc ls (.int y :: .int x :: st) K N P V := by
  intro p e s m args below meth c H locs cells slots lz X Y
  exact lv_iand X.1 X.2.1 hd (k p e s m args below meth c H locs cells slots lz X Y)
theorem zg_iorR {x y : Int32} (hd : decode μ.2.1 pc = .ok (.ior, 1))
    (k : zg_G Γ Ξ μ R Ω bc bs (pc + 1) ls (.int (x ||| y) :: st) K N P V) : zg_G Γ Ξ μ R Ω bc bs pc ls (.int y :: .int x :: st) K N P V := by
  intro p e s m args below meth c H locs cells slots lz X Y
  exact lv_ior X.1 X.2.1 hd (k p e s m args below meth c H locs cells slots lz X Y)
theorem zg_ixorR {x y : Int32} (hd : decode μ.2.1 pc = .ok (.ixor, 1))
    (k : zg_G Γ Ξ μ R Ω bc bs (pc + 1) ls (.int (x ^^^ y) :: st) K N P V) : zg_G Γ Ξ μ R Ω bc bs pc ls (.int y :: .int x :: st) K N P V := by
  intro p e s m args below meth c H locs cells slots lz X Y
  exact lv_ixor X.1 X.2.1 hd (k p e s m args below meth c H locs cells slots lz X Y)
theorem zg_ishlR {x y : Int32} (hd : decode μ.2.1 pc = .ok (.ishl, 1))
    (k : zg_G Γ Ξ μ R Ω bc bs (pc + 1) ls (.int (x <<< (y &&& 31)) :: st) K N P V) : zg_G Γ Ξ μ R Ω bc bs pc ls (.int y :: .int x :: st) K N P V := by
  intro p e s m args below meth c H locs cells slots lz X Y
  exact lv_ishl X.1 X.2.1 hd (k p e s m args below meth c H locs cells slots lz X Y)
theorem zg_ishrR {x y : Int32} (hd : decode μ.2.1 pc = .ok (.ishr, 1))
    (k : zg_G Γ Ξ μ R Ω bc bs (pc + 1) ls (.int (x >>> (y &&& 31)) :: st) K N P V) : zg_G Γ Ξ μ R Ω bc bs pc ls (.int y :: .int x :: st) K N P V := by
  intro p e s m args below meth c H locs cells slots lz X Y
  exact lv_ishr X.1 X.2.1 hd (k p e s m args below meth c H locs cells slots lz X Y)
theorem zg_ldc_w {ix : Nat} {v : Int32} (z : Int) (hd : decode μ.2.1 pc = .ok (.ldc_w ix, 3)) (hw : Cond.constant μ.1.cls ix v ∈ zn_TS) (hv : v = Int32.ofInt z)
    (k : zg_G Γ Ξ μ R Ω bc bs (pc + 3) ls (zg_i z :: st) K N P V) : zg_G Γ Ξ μ R Ω bc bs pc ls st K N P V := by
  intro p e s m args below meth c H locs cells slots lz X Y
  subst hv
  exact lv_ldcw X.1 X.2.1 X.2.2.2.2.2.2.1 (X.2.2.2.2.2.1 _ hw) hd (k p e s m args below meth c H locs cells slots lz X Y)
theorem zg_iand {x y : Int32} (z : Int) (hd : decode μ.2.1 pc = .ok (.iand, 1)) (hz : x &&& y = Int32.ofInt z)
    (k : zg_G Γ Ξ μ R Ω bc bs (pc + 1) ls (zg_i z :: st) K N P V) : zg_G Γ Ξ μ R Ω bc bs pc ls (.int y :: .int x :: st) K N P V := by
  intro p e s m args below meth c H locs cells slots lz X Y
  refine lv_iand X.1 X.2.1 hd ?_
  rw [hz]
  exact k p e s m args below meth c H locs cells slots lz X Y
theorem zg_ior {x y : Int32} (z : Int) (hd : decode μ.2.1 pc = .ok (.ior, 1)) (hz : x ||| y = Int32.ofInt z)
    (k : zg_G Γ Ξ μ R Ω bc bs (pc + 1) ls (zg_i z :: st) K N P V) : zg_G Γ Ξ μ R Ω bc bs pc ls (.int y :: .int x :: st) K N P V := by
  intro p e s m args below meth c H locs cells slots lz X Y
  refine lv_ior X.1 X.2.1 hd ?_
  rw [hz]
  exact k p e s m args below meth c H locs cells slots lz X Y
theorem zg_ixor {x y : Int32} (z : Int) (hd : decode μ.2.1 pc = .ok (.ixor, 1)) (hz : x ^^^ y = Int32.ofInt z)
    (k : zg_G Γ Ξ μ R Ω bc bs (pc + 1) ls (zg_i z :: st) K N P V) : zg_G Γ Ξ μ R Ω bc bs pc ls (.int y :: .int x :: st) K N P V := by
  intro p e s m args below meth c H locs cells slots lz X Y
  refine lv_ixor X.1 X.2.1 hd ?_
  rw [hz]
  exact k p e s m args below meth c H locs cells slots lz X Y
theorem zg_ishl {x y : Int32} (z : Int) (hd : decode μ.2.1 pc = .ok (.ishl, 1)) (hz : x <<< (y &&& 31) = Int32.ofInt z)
    (k : zg_G Γ Ξ μ R Ω bc bs (pc + 1) ls (zg_i z :: st) K N P V) : zg_G Γ Ξ μ R Ω bc bs pc ls (.int y :: .int x :: st) K N P V := by
  intro p e s m args below meth c H locs cells slots lz X Y
  refine lv_ishl X.1 X.2.1 hd ?_
  rw [hz]
  exact k p e s m args below meth c H locs cells slots lz X Y
theorem zg_ishr {x y : Int32} (z : Int) (hd : decode μ.2.1 pc = .ok (.ishr, 1)) (hz : x >>> (y &&& 31) = Int32.ofInt z)
    (k : zg_G Γ Ξ μ R Ω bc bs (pc + 1) ls (zg_i z :: st) K N P V) : zg_G Γ Ξ μ R Ω bc bs pc ls (.int y :: .int x :: st) K N P V := by
  intro p e s m args below meth c H locs cells slots lz X Y
  refine lv_ishr X.1 X.2.1 hd ?_
  rw [hz]
  exact k p e s m args below meth c H locs cells slots lz X Y
theorem zg_iushr {x y : Int32} (z : Int) (hd : decode μ.2.1 pc = .ok (.iushr, 1)) (hz : (x.toUInt32 >>> (y.toUInt32 &&& Int32.toUInt32 31)).toInt32 = Int32.ofInt z)
    (k : zg_G Γ Ξ μ R Ω bc bs (pc + 1) ls (zg_i z :: st) K N P V) : zg_G Γ Ξ μ R Ω bc bs pc ls (.int y :: .int x :: st) K N P V := by
  intro p e s m args below meth c H locs cells slots lz X Y
  exact lv_iushr X.1 X.2.1 hd hz (k p e s m args below meth c H locs cells slots lz X Y)
theorem zg_idiv {x y : Int32} (z : Int) (hd : decode μ.2.1 pc = .ok (.idiv, 1)) (hne : ¬ y = 0) (hz : x / y = Int32.ofInt z)
    (k : zg_G Γ Ξ μ R Ω bc bs (pc + 1) ls (zg_i z :: st) K N P V) : zg_G Γ Ξ μ R Ω bc bs pc ls (.int y :: .int x :: st) K N P V := by
  intro p e s m args below meth c H locs cells slots lz X Y
  refine lv_idiv X.1 X.2.1 hd hne ?_
  rw [hz]
  exact k p e s m args below meth c H locs cells slots lz X Y
theorem zg_irem {x y : Int32} (z : Int) (hd : decode μ.2.1 pc = .ok (.irem, 1)) (hne : ¬ y = 0) (hz : x - x / y * y = Int32.ofInt z)
    (k : zg_G Γ Ξ μ R Ω bc bs (pc + 1) ls (zg_i z :: st) K N P V) : zg_G Γ Ξ μ R Ω bc bs pc ls (.int y :: .int x :: st) K N P V := by
  intro p e s m args below meth c H locs cells slots lz X Y
  refine lv_irem X.1 X.2.1 hd hne ?_
  rw [hz]
  exact k p e s m args below meth c H locs cells slots lz X Y
theorem zg_ldiv {x y : Int64} (z : Int) (hd : decode μ.2.1 pc = .ok (.ldiv, 1)) (hne : ¬ y = 0) (hz : x / y = Int64.ofInt z)
    (k : zg_G Γ Ξ μ R Ω bc bs (pc + 1) ls (zg_l z :: st) K N P V) : zg_G Γ Ξ μ R Ω bc bs pc ls (.long y :: .long x :: st) K N P V := by
  intro p e s m args below meth c H locs cells slots lz X Y
  refine lv_ldiv X.1 X.2.1 hd hne ?_
  rw [hz]
  exact k p e s m args below meth c H locs cells slots lz X Y
theorem zg_lrem {x y : Int64} (z : Int) (hd : decode μ.2.1 pc = .ok (.lrem, 1)) (hne : ¬ y = 0) (hz : x - x / y * y = Int64.ofInt z)
    (k : zg_G Γ Ξ μ R Ω bc bs (pc + 1) ls (zg_l z :: st) K N P V) : zg_G Γ Ξ μ R Ω bc bs pc ls (.long y :: .long x :: st) K N P V := by
  intro p e s m args below meth c H locs cells slots lz X Y
  refine lv_lrem X.1 X.2.1 hd hne ?_
  rw [hz]
  exact k p e s m args below meth c H locs cells slots lz X Y
theorem zg_land {x y : Int64} (z : Int) (hd : decode μ.2.1 pc = .ok (.land, 1)) (hz : x &&& y = Int64.ofInt z)
    (k : zg_G Γ Ξ μ R Ω bc bs (pc + 1) ls (zg_l z :: st) K N P V) : zg_G Γ Ξ μ R Ω bc bs pc ls (.long y :: .long x :: st) K N P V := by
  intro p e s m args below meth c H locs cells slots lz X Y
  refine lv_land X.1 X.2.1 hd ?_
  rw [hz]
  exact k p e s m args below meth c H locs cells slots lz X Y
theorem zg_lor {x y : Int64} (z : Int) (hd : decode μ.2.1 pc = .ok (.lor, 1)) (hz : x ||| y = Int64.ofInt z)
    (k : zg_G Γ Ξ μ R Ω bc bs (pc + 1) ls (zg_l z :: st) K N P V) : zg_G Γ Ξ μ R Ω bc bs pc ls (.long y :: .long x :: st) K N P V := by
  intro p e s m args below meth c H locs cells slots lz X Y
  refine lv_lor X.1 X.2.1 hd ?_
  rw [hz]
  exact k p e s m args below meth c H locs cells slots lz X Y
theorem zg_lxor {x y : Int64} (z : Int) (hd : decode μ.2.1 pc = .ok (.lxor, 1)) (hz : x ^^^ y = Int64.ofInt z)
    (k : zg_G Γ Ξ μ R Ω bc bs (pc + 1) ls (zg_l z :: st) K N P V) : zg_G Γ Ξ μ R Ω bc bs pc ls (.long y :: .long x :: st) K N P V := by
  intro p e s m args below meth c H locs cells slots lz X Y
  refine lv_lxor X.1 X.2.1 hd ?_
  rw [hz]
  exact k p e s m args below meth c H locs cells slots lz X Y
theorem zg_lushr {x : Int64} {y : Int32} (z : Int) (hd : decode μ.2.1 pc = .ok (.lushr, 1)) (hz : (x.toUInt64 >>> (y.toInt64.toUInt64 &&& Int64.toUInt64 63)).toInt64 = Int64.ofInt z)
    (k : zg_G Γ Ξ μ R Ω bc bs (pc + 1) ls (zg_l z :: st) K N P V) : zg_G Γ Ξ μ R Ω bc bs pc ls (.int y :: .long x :: st) K N P V := by
  intro p e s m args below meth c H locs cells slots lz X Y
  exact lv_lushr X.1 X.2.1 hd hz (k p e s m args below meth c H locs cells slots lz X Y)
theorem zg_lshl {x : Int64} {y : Int32} (z : Int) (hd : decode μ.2.1 pc = .ok (.lshl, 1)) (hz : x <<< (y.toInt64 &&& 63) = Int64.ofInt z)
    (k : zg_G Γ Ξ μ R Ω bc bs (pc + 1) ls (zg_l z :: st) K N P V) : zg_G Γ Ξ μ R Ω bc bs pc ls (.int y :: .long x :: st) K N P V := by
  intro p e s m args below meth c H locs cells slots lz X Y
  exact lv_lshl X.1 X.2.1 hd hz (k p e s m args below meth c H locs cells slots lz X Y)
theorem zg_lshr {x : Int64} {y : Int32} (z : Int) (hd : decode μ.2.1 pc = .ok (.lshr, 1)) (hz : x >>> (y.toInt64 &&& 63) = Int64.ofInt z)
    (k : zg_G Γ Ξ μ R Ω bc bs (pc + 1) ls (zg_l z :: st) K N P V) : zg_G Γ Ξ μ R Ω bc bs pc ls (.int y :: .long x :: st) K N P V := by
  intro p e s m args below meth c H locs cells slots lz X Y
  exact lv_lshr X.1 X.2.1 hd hz (k p e s m args below meth c H locs cells slots lz X Y)
theorem zg_i2l {a : Int} (hd : decode μ.2.1 pc = .ok (.i2l, 1)) (ha : -2147483648 ≤ a ∧ a < 2147483648)
    (k : zg_G Γ Ξ μ R Ω bc bs (pc + 1) ls (zg_l a :: st) K N P V) : zg_G Γ Ξ μ R Ω bc bs pc ls (zg_i a :: st) K N P V := by
  intro p e s m args below meth c H locs cells slots lz X Y
  exact lv_i2l X.1 X.2.1 hd (Int64.toInt_inj.mp (by rw [Int32.toInt_toInt64, Int32.toInt_ofInt_of_le (by omega) (by omega), Int64.toInt_ofInt_of_le (by omega) (by omega)])) (k p e s m args below meth c H locs cells slots lz X Y)
theorem zg_l2i {a : Int} (hd : decode μ.2.1 pc = .ok (.l2i, 1))
    (k : zg_G Γ Ξ μ R Ω bc bs (pc + 1) ls (zg_i a :: st) K N P V) : zg_G Γ Ξ μ R Ω bc bs pc ls (zg_l a :: st) K N P V := by
  intro p e s m args below meth c H locs cells slots lz X Y
  exact lv_l2i X.1 X.2.1 hd Int64.toInt32_ofInt (k p e s m args below meth c H locs cells slots lz X Y)
def zg_cmp (a b : Int) : Int := if b < a then 1 else if a = b then 0 else -1
theorem zg_cmp_eq {a b : Int} (ha : -9223372036854775808 ≤ a ∧ a < 9223372036854775808) (hb : -9223372036854775808 ≤ b ∧ b < 9223372036854775808) : lg_cmp (Int64.ofInt a) (Int64.ofInt b) = Int32.ofInt (zg_cmp a b) := by
  have h1 : (Int64.ofInt a).toInt = a := Int64.toInt_ofInt_of_le (by omega) (by omega)
  have h2 : (Int64.ofInt b).toInt = b := Int64.toInt_ofInt_of_le (by omega) (by omega)
  unfold lg_cmp zg_cmp
  by_cases q : b < a
  · rw [if_pos q, if_pos (by show Int64.ofInt b < Int64.ofInt a; rw [Int64.lt_iff_toInt_lt, h1, h2]; exact q)]
    rfl
  · rw [if_neg q, if_neg (by show ¬ Int64.ofInt b < Int64.ofInt a; rw [Int64.lt_iff_toInt_lt, h1, h2]; exact q)]
    by_cases r : a = b
    · rw [if_pos r, if_pos (by rw [r])]
      rfl
    · rw [if_neg r, if_neg (by rw [← Int64.toInt_inj, h1, h2]; exact r)]
      rfl
theorem zg_lcmp {a b : Int} (hd : decode μ.2.1 pc = .ok (.lcmp, 1)) (ha : -9223372036854775808 ≤ a ∧ a < 9223372036854775808) (hb : -9223372036854775808 ≤ b ∧ b < 9223372036854775808)
    (k : zg_G Γ Ξ μ R Ω bc bs (pc + 1) ls (zg_i (zg_cmp a b) :: st) K N P V) : zg_G Γ Ξ μ R Ω bc bs pc ls (zg_l b :: zg_l a :: st) K N P V := by
  intro p e s m args below meth c H locs cells slots lz X Y
  refine W.lcmp X.1 X.2.1 hd ?_
  rw [zg_cmp_eq ha hb]
  exact k p e s m args below meth c H locs cells slots lz X Y
theorem zg_dup {va : Value} (hd : decode μ.2.1 pc = .ok (.dup, 1)) (hva : va.category = 1)
    (k : zg_G Γ Ξ μ R Ω bc bs (pc + 1) ls (va :: va :: st) K N P V) : zg_G Γ Ξ μ R Ω bc bs pc ls (va :: st) K N P V := by
  intro p e s m args below meth c H locs cells slots lz X Y
  exact lv_dup X.1 X.2.1 hd hva (k p e s m args below meth c H locs cells slots lz X Y)
theorem zg_pop {va : Value} (hd : decode μ.2.1 pc = .ok (.pop, 1)) (hva : va.category = 1)
    (k : zg_G Γ Ξ μ R Ω bc bs (pc + 1) ls st K N P V) : zg_G Γ Ξ μ R Ω bc bs pc ls (va :: st) K N P V := by
  intro p e s m args below meth c H locs cells slots lz X Y
  exact lv_pop X.1 X.2.1 hd hva (k p e s m args below meth c H locs cells slots lz X Y)
theorem zg_dup_x1 {va vb : Value} (hd : decode μ.2.1 pc = .ok (.dup_x1, 1)) (hva : va.category = 1) (hvb : vb.category = 1)
    (k : zg_G Γ Ξ μ R Ω bc bs (pc + 1) ls (va :: vb :: va :: st) K N P V) : zg_G Γ Ξ μ R Ω bc bs pc ls (va :: vb :: st) K N P V := by
  intro p e s m args below meth c H locs cells slots lz X Y
  exact lv_dup_x1 X.1 X.2.1 hd hva hvb (k p e s m args below meth c H locs cells slots lz X Y)
theorem zg_dup_x2 {va vb vd : Value} (hd : decode μ.2.1 pc = .ok (.dup_x2, 1)) (hva : va.category = 1) (hvb : vb.category = 1) (hvd : vd.category = 1)
    (k : zg_G Γ Ξ μ R Ω bc bs (pc + 1) ls (va :: vb :: vd :: va :: st) K N P V) : zg_G Γ Ξ μ R Ω bc bs pc ls (va :: vb :: vd :: st) K N P V := by
  intro p e s m args below meth c H locs cells slots lz X Y
  exact lv_dup_x2 X.1 X.2.1 hd hva hvb hvd (k p e s m args below meth c H locs cells slots lz X Y)
theorem zg_dup2 {va vb : Value} (hd : decode μ.2.1 pc = .ok (.dup2, 1)) (hva : va.category = 1) (hvb : vb.category = 1)
    (k : zg_G Γ Ξ μ R Ω bc bs (pc + 1) ls (va :: vb :: va :: vb :: st) K N P V) : zg_G Γ Ξ μ R Ω bc bs pc ls (va :: vb :: st) K N P V := by
  intro p e s m args below meth c H locs cells slots lz X Y
  exact lv_dup2_11 X.1 X.2.1 hd hva hvb (k p e s m args below meth c H locs cells slots lz X Y)
theorem zg_dup2L {va : Value} (hd : decode μ.2.1 pc = .ok (.dup2, 1)) (hva : va.category = 2)
    (k : zg_G Γ Ξ μ R Ω bc bs (pc + 1) ls (va :: va :: st) K N P V) : zg_G Γ Ξ μ R Ω bc bs pc ls (va :: st) K N P V := by
  intro p e s m args below meth c H locs cells slots lz X Y
  exact lv_dup2_2 X.1 X.2.1 hd hva (k p e s m args below meth c H locs cells slots lz X Y)
theorem zg_pop2L {va : Value} (hd : decode μ.2.1 pc = .ok (.pop2, 1)) (hva : va.category = 2)
    (k : zg_G Γ Ξ μ R Ω bc bs (pc + 1) ls st K N P V) : zg_G Γ Ξ μ R Ω bc bs pc ls (va :: st) K N P V := by
  intro p e s m args below meth c H locs cells slots lz X Y
  exact lv_pop2_2 X.1 X.2.1 hd hva (k p e s m args below meth c H locs cells slots lz X Y)
theorem zg_icmp_eq {a b off : Int} {tgt : Nat} (hd : decode μ.2.1 pc = .ok (.if_icmp .eq off, 3)) (ht : (pc : Int) + off = (tgt : Int)) (ha : -2147483648 ≤ a ∧ a < 2147483648) (hb : -2147483648 ≤ b ∧ b < 2147483648)
    (kt : a = b → zg_G Γ Ξ μ R Ω bc bs tgt ls st K N P V) (kf : ¬ (a = b) → zg_G Γ Ξ μ R Ω bc bs (pc + 3) ls st K N P V) : zg_G Γ Ξ μ R Ω bc bs pc ls (zg_i b :: zg_i a :: st) K N P V := by
  intro p e s m args below meth c H locs cells slots lz X Y
  exact lv_icmp_eq X.1 X.2.1 hd ht (fun h => kt ((zg_eq ha hb).mp h) p e s m args below meth c H locs cells slots lz X Y) (fun h => kf (fun q => h ((zg_eq ha hb).mpr q)) p e s m args below meth c H locs cells slots lz X Y)
theorem zg_if_eq {a off : Int} {tgt : Nat} (hd : decode μ.2.1 pc = .ok (.ifCond .eq off, 3)) (ht : (pc : Int) + off = (tgt : Int)) (ha : -2147483648 ≤ a ∧ a < 2147483648)
    (kt : a = 0 → zg_G Γ Ξ μ R Ω bc bs tgt ls st K N P V) (kf : ¬ (a = 0) → zg_G Γ Ξ μ R Ω bc bs (pc + 3) ls st K N P V) : zg_G Γ Ξ μ R Ω bc bs pc ls (zg_i a :: st) K N P V := by
  intro p e s m args below meth c H locs cells slots lz X Y
  exact lv_if_eq X.1 X.2.1 hd ht (fun h => kt ((zg_eq0 ha).mp h) p e s m args below meth c H locs cells slots lz X Y) (fun h => kf (fun q => h ((zg_eq0 ha).mpr q)) p e s m args below meth c H locs cells slots lz X Y)
theorem zg_icmp_ne {a b off : Int} {tgt : Nat} (hd : decode μ.2.1 pc = .ok (.if_icmp .ne off, 3)) (ht : (pc : Int) + off = (tgt : Int)) (ha : -2147483648 ≤ a ∧ a < 2147483648) (hb : -2147483648 ≤ b ∧ b < 2147483648)
    (kt : ¬ a = b → zg_G Γ Ξ μ R Ω bc bs tgt ls st K N P V) (kf : a = b → zg_G Γ Ξ μ R Ω bc bs (pc + 3) ls st K N P V) : zg_G Γ Ξ μ R Ω bc bs pc ls (zg_i b :: zg_i a :: st) K N P V := by
  intro p e s m args below meth c H locs cells slots lz X Y
  exact lv_icmp_ne X.1 X.2.1 hd ht (fun h => kt (fun q => h ((zg_eq ha hb).mpr q)) p e s m args below meth c H locs cells slots lz X Y) (fun h => kf ((zg_eq ha hb).mp h) p e s m args below meth c H locs cells slots lz X Y)
theorem zg_if_ne {a off : Int} {tgt : Nat} (hd : decode μ.2.1 pc = .ok (.ifCond .ne off, 3)) (ht : (pc : Int) + off = (tgt : Int)) (ha : -2147483648 ≤ a ∧ a < 2147483648)
    (kt : ¬ a = 0 → zg_G Γ Ξ μ R Ω bc bs tgt ls st K N P V) (kf : a = 0 → zg_G Γ Ξ μ R Ω bc bs (pc + 3) ls st K N P V) : zg_G Γ Ξ μ R Ω bc bs pc ls (zg_i a :: st) K N P V := by
  intro p e s m args below meth c H locs cells slots lz X Y
  exact lv_if_ne X.1 X.2.1 hd ht (fun h => kt (fun q => h ((zg_eq0 ha).mpr q)) p e s m args below meth c H locs cells slots lz X Y) (fun h => kf ((zg_eq0 ha).mp h) p e s m args below meth c H locs cells slots lz X Y)
theorem zg_icmp_lt {a b off : Int} {tgt : Nat} (hd : decode μ.2.1 pc = .ok (.if_icmp .lt off, 3)) (ht : (pc : Int) + off = (tgt : Int)) (ha : -2147483648 ≤ a ∧ a < 2147483648) (hb : -2147483648 ≤ b ∧ b < 2147483648)
    (kt : a < b → zg_G Γ Ξ μ R Ω bc bs tgt ls st K N P V) (kf : ¬ (a < b) → zg_G Γ Ξ μ R Ω bc bs (pc + 3) ls st K N P V) : zg_G Γ Ξ μ R Ω bc bs pc ls (zg_i b :: zg_i a :: st) K N P V := by
  intro p e s m args below meth c H locs cells slots lz X Y
  exact lv_icmp_lt X.1 X.2.1 hd ht (fun h => kt ((zg_lt ha hb).mp h) p e s m args below meth c H locs cells slots lz X Y) (fun h => kf (fun q => h ((zg_lt ha hb).mpr q)) p e s m args below meth c H locs cells slots lz X Y)
theorem zg_if_lt {a off : Int} {tgt : Nat} (hd : decode μ.2.1 pc = .ok (.ifCond .lt off, 3)) (ht : (pc : Int) + off = (tgt : Int)) (ha : -2147483648 ≤ a ∧ a < 2147483648)
    (kt : a < 0 → zg_G Γ Ξ μ R Ω bc bs tgt ls st K N P V) (kf : ¬ (a < 0) → zg_G Γ Ξ μ R Ω bc bs (pc + 3) ls st K N P V) : zg_G Γ Ξ μ R Ω bc bs pc ls (zg_i a :: st) K N P V := by
  intro p e s m args below meth c H locs cells slots lz X Y
  exact lv_if_lt X.1 X.2.1 hd ht (fun h => kt ((zg_lt0 ha).mp h) p e s m args below meth c H locs cells slots lz X Y) (fun h => kf (fun q => h ((zg_lt0 ha).mpr q)) p e s m args below meth c H locs cells slots lz X Y)
theorem zg_icmp_ge {a b off : Int} {tgt : Nat} (hd : decode μ.2.1 pc = .ok (.if_icmp .ge off, 3)) (ht : (pc : Int) + off = (tgt : Int)) (ha : -2147483648 ≤ a ∧ a < 2147483648) (hb : -2147483648 ≤ b ∧ b < 2147483648)
    (kt : b ≤ a → zg_G Γ Ξ μ R Ω bc bs tgt ls st K N P V) (kf : ¬ (b ≤ a) → zg_G Γ Ξ μ R Ω bc bs (pc + 3) ls st K N P V) : zg_G Γ Ξ μ R Ω bc bs pc ls (zg_i b :: zg_i a :: st) K N P V := by
  intro p e s m args below meth c H locs cells slots lz X Y
  exact lv_icmp_ge X.1 X.2.1 hd ht (fun h => kt ((zg_le hb ha).mp h) p e s m args below meth c H locs cells slots lz X Y) (fun h => kf (fun q => h ((zg_le hb ha).mpr q)) p e s m args below meth c H locs cells slots lz X Y)
theorem zg_if_ge {a off : Int} {tgt : Nat} (hd : decode μ.2.1 pc = .ok (.ifCond .ge off, 3)) (ht : (pc : Int) + off = (tgt : Int)) (ha : -2147483648 ≤ a ∧ a < 2147483648)
    (kt : 0 ≤ a → zg_G Γ Ξ μ R Ω bc bs tgt ls st K N P V) (kf : ¬ (0 ≤ a) → zg_G Γ Ξ μ R Ω bc bs (pc + 3) ls st K N P V) : zg_G Γ Ξ μ R Ω bc bs pc ls (zg_i a :: st) K N P V := by
  intro p e s m args below meth c H locs cells slots lz X Y
  exact lv_if_ge X.1 X.2.1 hd ht (fun h => kt ((zg_0le ha).mp h) p e s m args below meth c H locs cells slots lz X Y) (fun h => kf (fun q => h ((zg_0le ha).mpr q)) p e s m args below meth c H locs cells slots lz X Y)
theorem zg_icmp_gt {a b off : Int} {tgt : Nat} (hd : decode μ.2.1 pc = .ok (.if_icmp .gt off, 3)) (ht : (pc : Int) + off = (tgt : Int)) (ha : -2147483648 ≤ a ∧ a < 2147483648) (hb : -2147483648 ≤ b ∧ b < 2147483648)
    (kt : b < a → zg_G Γ Ξ μ R Ω bc bs tgt ls st K N P V) (kf : ¬ (b < a) → zg_G Γ Ξ μ R Ω bc bs (pc + 3) ls st K N P V) : zg_G Γ Ξ μ R Ω bc bs pc ls (zg_i b :: zg_i a :: st) K N P V := by
  intro p e s m args below meth c H locs cells slots lz X Y
  exact lv_icmp_gt X.1 X.2.1 hd ht (fun h => kt ((zg_lt hb ha).mp h) p e s m args below meth c H locs cells slots lz X Y) (fun h => kf (fun q => h ((zg_lt hb ha).mpr q)) p e s m args below meth c H locs cells slots lz X Y)
theorem zg_if_gt {a off : Int} {tgt : Nat} (hd : decode μ.2.1 pc = .ok (.ifCond .gt off, 3)) (ht : (pc : Int) + off = (tgt : Int)) (ha : -2147483648 ≤ a ∧ a < 2147483648)
    (kt : 0 < a → zg_G Γ Ξ μ R Ω bc bs tgt ls st K N P V) (kf : ¬ (0 < a) → zg_G Γ Ξ μ R Ω bc bs (pc + 3) ls st K N P V) : zg_G Γ Ξ μ R Ω bc bs pc ls (zg_i a :: st) K N P V := by
  intro p e s m args below meth c H locs cells slots lz X Y
  exact lv_if_gt X.1 X.2.1 hd ht (fun h => kt ((zg_0lt ha).mp h) p e s m args below meth c H locs cells slots lz X Y) (fun h => kf (fun q => h ((zg_0lt ha).mpr q)) p e s m args below meth c H locs cells slots lz X Y)
theorem zg_icmp_le {a b off : Int} {tgt : Nat} (hd : decode μ.2.1 pc = .ok (.if_icmp .le off, 3)) (ht : (pc : Int) + off = (tgt : Int)) (ha : -2147483648 ≤ a ∧ a < 2147483648) (hb : -2147483648 ≤ b ∧ b < 2147483648)
    (kt : a ≤ b → zg_G Γ Ξ μ R Ω bc bs tgt ls st K N P V) (kf : ¬ (a ≤ b) → zg_G Γ Ξ μ R Ω bc bs (pc + 3) ls st K N P V) : zg_G Γ Ξ μ R Ω bc bs pc ls (zg_i b :: zg_i a :: st) K N P V := by
  intro p e s m args below meth c H locs cells slots lz X Y
  exact lv_icmp_le X.1 X.2.1 hd ht (fun h => kt ((zg_le ha hb).mp h) p e s m args below meth c H locs cells slots lz X Y) (fun h => kf (fun q => h ((zg_le ha hb).mpr q)) p e s m args below meth c H locs cells slots lz X Y)
theorem zg_if_le {a off : Int} {tgt : Nat} (hd : decode μ.2.1 pc = .ok (.ifCond .le off, 3)) (ht : (pc : Int) + off = (tgt : Int)) (ha : -2147483648 ≤ a ∧ a < 2147483648)
    (kt : a ≤ 0 → zg_G Γ Ξ μ R Ω bc bs tgt ls st K N P V) (kf : ¬ (a ≤ 0) → zg_G Γ Ξ μ R Ω bc bs (pc + 3) ls st K N P V) : zg_G Γ Ξ μ R Ω bc bs pc ls (zg_i a :: st) K N P V := by
  intro p e s m args below meth c H locs cells slots lz X Y
  exact lv_if_le X.1 X.2.1 hd ht (fun h => kt ((zg_le0 ha).mp h) p e s m args below meth c H locs cells slots lz X Y) (fun h => kf (fun q => h ((zg_le0 ha).mpr q)) p e s m args below meth c H locs cells slots lz X Y)
theorem zg_goto {off : Int} {tgt : Nat} (hd : decode μ.2.1 pc = .ok (.goto off, 3)) (ht : (pc : Int) + off = (tgt : Int))
    (k : zg_G Γ Ξ μ R Ω bc bs tgt ls st K N P V) : zg_G Γ Ξ μ R Ω bc bs pc ls st K N P V := by
  intro p e s m args below meth c H locs cells slots lz X Y
  exact lv_goto X.1 X.2.1 hd ht (k p e s m args below meth c H locs cells slots lz X Y)
theorem zg_icmp_ne_rf {x : Int32} {off : Int} {tgt : Nat} (hd : decode μ.2.1 pc = .ok (.if_icmp .ne off, 3)) (ht : (pc : Int) + off = (tgt : Int))
    (k : zg_G Γ Ξ μ R Ω bc bs (pc + 3) ls st K N P V) : zg_G Γ Ξ μ R Ω bc bs pc ls (.int x :: .int x :: st) K N P V := by
  intro p e s m args below meth c H locs cells slots lz X Y
  exact lv_icmp_ne X.1 X.2.1 hd ht (fun h => absurd rfl h) (fun _ => k p e s m args below meth c H locs cells slots lz X Y)
theorem zg_icmp_eq_rf {x : Int32} {off : Int} {tgt : Nat} (hd : decode μ.2.1 pc = .ok (.if_icmp .eq off, 3)) (ht : (pc : Int) + off = (tgt : Int))
    (k : zg_G Γ Ξ μ R Ω bc bs tgt ls st K N P V) : zg_G Γ Ξ μ R Ω bc bs pc ls (.int x :: .int x :: st) K N P V := by
  intro p e s m args below meth c H locs cells slots lz X Y
  exact lv_icmp_eq X.1 X.2.1 hd ht (fun _ => k p e s m args below meth c H locs cells slots lz X Y) (fun h => absurd rfl h)
theorem zg_lcmp_rf {x : Int64} (hd : decode μ.2.1 pc = .ok (.lcmp, 1))
    (k : zg_G Γ Ξ μ R Ω bc bs (pc + 1) ls (zg_i 0 :: st) K N P V) : zg_G Γ Ξ μ R Ω bc bs pc ls (.long x :: .long x :: st) K N P V := by
  intro p e s m args below meth c H locs cells slots lz X Y
  refine W.lcmp X.1 X.2.1 hd ?_
  have h : lg_cmp x x = Int32.ofInt 0 := by simp [lg_cmp]
  rw [h]
  exact k p e s m args below meth c H locs cells slots lz X Y
section ZL
variable {o0 o1 o2 o3 o4 o5 o6 o7 o8 o9 o10 o11 o12 o13 o14 o15 o16 : Option Value} {rs : List (Option Value)}
theorem zg_il0 {z : Int} (hd : decode μ.2.1 pc = .ok (.iload_n 0, 1))
    (k : zg_G Γ Ξ μ R Ω bc bs (pc + 1) (some (zg_i z) :: rs) (zg_i z :: st) K N P V) : zg_G Γ Ξ μ R Ω bc bs pc (some (zg_i z) :: rs) st K N P V := by
  intro p e s m args below meth c H locs cells slots lz X Y
  exact lv_iload_n X.1 X.2.1 hd rfl (Y.1.2.2 0 _ rfl) (k p e s m args below meth c H locs cells slots lz X Y)
theorem zg_ll0 {z : Int} (hd : decode μ.2.1 pc = .ok (.lload_n 0, 1))
    (k : zg_G Γ Ξ μ R Ω bc bs (pc + 1) (some (zg_l z) :: rs) (zg_l z :: st) K N P V) : zg_G Γ Ξ μ R Ω bc bs pc (some (zg_l z) :: rs) st K N P V := by
  intro p e s m args below meth c H locs cells slots lz X Y
  exact lv_lload_n X.1 X.2.1 hd rfl (Y.1.2.2 0 _ rfl) (k p e s m args below meth c H locs cells slots lz X Y)
theorem zg_al0 {a : Nat} (hd : decode μ.2.1 pc = .ok (.aload_n 0, 1))
    (k : zg_G Γ Ξ μ R Ω bc bs (pc + 1) (some (zg_r Γ a) :: rs) (zg_r Γ a :: st) K N P V) : zg_G Γ Ξ μ R Ω bc bs pc (some (zg_r Γ a) :: rs) st K N P V := by
  intro p e s m args below meth c H locs cells slots lz X Y
  exact lv_aload_n X.1 X.2.1 hd rfl (Y.1.2.2 0 _ rfl) (k p e s m args below meth c H locs cells slots lz X Y)
theorem zg_is0 {z : Int} (hd : decode μ.2.1 pc = .ok (.istore_n 0, 1)) (hn : 0 < μ.2.2.1)
    (k : zg_G Γ Ξ μ R Ω bc bs (pc + 1) (some (zg_i z) :: rs) st K N P V) : zg_G Γ Ξ μ R Ω bc bs pc (o0 :: rs) (zg_i z :: st) K N P V := by
  intro p e s m args below meth c H locs cells slots lz X Y
  exact lv_istore_n X.1 X.2.1 hd rfl (zg_lh_has Y.1) hn rfl (fun lz' h => k p e s m args below meth c H locs cells slots lz' X ⟨zg_lh_store (fun w h _ => absurd h (Nat.lt_irrefl 0)) h, Y.2⟩)
theorem zg_as0 {a : Nat} (hd : decode μ.2.1 pc = .ok (.astore_n 0, 1)) (hn : 0 < μ.2.2.1)
    (k : zg_G Γ Ξ μ R Ω bc bs (pc + 1) (some (zg_r Γ a) :: rs) st K N P V) : zg_G Γ Ξ μ R Ω bc bs pc (o0 :: rs) (zg_r Γ a :: st) K N P V := by
  intro p e s m args below meth c H locs cells slots lz X Y
  exact lv_astore_n X.1 X.2.1 hd rfl (zg_lh_has Y.1) hn rfl (fun lz' h => k p e s m args below meth c H locs cells slots lz' X ⟨zg_lh_store (fun w h _ => absurd h (Nat.lt_irrefl 0)) h, Y.2⟩)
theorem zg_ls0 {z : Int} (hd : decode μ.2.1 pc = .ok (.lstore_n 0, 1)) (hn : 0 + 1 < μ.2.2.1)
    (k : zg_G Γ Ξ μ R Ω bc bs (pc + 1) (some (zg_l z) :: none :: rs) st K N P V) : zg_G Γ Ξ μ R Ω bc bs pc (o0 :: o1 :: rs) (zg_l z :: st) K N P V := by
  intro p e s m args below meth c H locs cells slots lz X Y
  exact lv_lstore_n X.1 X.2.1 hd rfl (zg_lh_has Y.1) hn rfl (fun lz' h => k p e s m args below meth c H locs cells slots lz' X ⟨zg_lh_store2 (fun w h _ => absurd h (Nat.lt_irrefl 0)) h, Y.2⟩)
theorem zg_inc0 {z n : Int} (hd : decode μ.2.1 pc = .ok (.iinc 0 n, 3)) (hn : 0 < μ.2.2.1)
    (k : zg_G Γ Ξ μ R Ω bc bs (pc + 3) (some (zg_i (z + n)) :: rs) st K N P V) : zg_G Γ Ξ μ R Ω bc bs pc (some (zg_i z) :: rs) st K N P V := by
  intro p e s m args below meth c H locs cells slots lz X Y
  obtain ⟨kx, hkx⟩ := List.getElem?_of_mem (zg_pr_mem.mpr (show (some (zg_i z) :: rs)[0]? = some (some (zg_i z)) from rfl))
  exact lv_iinc (v := Int32.ofInt (z + n)) X.1 X.2.1 hd (zg_lh_has Y.1) hkx (Int32.ofInt_add z n).symm hn rfl (fun lz' h => k p e s m args below meth c H locs cells slots lz' X ⟨zg_lh_store (fun w h _ => absurd h (Nat.lt_irrefl 0)) h, Y.2⟩)
theorem zg_il1 {z : Int} (hd : decode μ.2.1 pc = .ok (.iload_n 1, 1))
    (k : zg_G Γ Ξ μ R Ω bc bs (pc + 1) (o0 :: some (zg_i z) :: rs) (zg_i z :: st) K N P V) : zg_G Γ Ξ μ R Ω bc bs pc (o0 :: some (zg_i z) :: rs) st K N P V := by
  intro p e s m args below meth c H locs cells slots lz X Y
  exact lv_iload_n X.1 X.2.1 hd rfl (Y.1.2.2 1 _ rfl) (k p e s m args below meth c H locs cells slots lz X Y)
theorem zg_ll1 {z : Int} (hd : decode μ.2.1 pc = .ok (.lload_n 1, 1))
    (k : zg_G Γ Ξ μ R Ω bc bs (pc + 1) (o0 :: some (zg_l z) :: rs) (zg_l z :: st) K N P V) : zg_G Γ Ξ μ R Ω bc bs pc (o0 :: some (zg_l z) :: rs) st K N P V := by
  intro p e s m args below meth c H locs cells slots lz X Y
  exact lv_lload_n X.1 X.2.1 hd rfl (Y.1.2.2 1 _ rfl) (k p e s m args below meth c H locs cells slots lz X Y)
theorem zg_al1 {a : Nat} (hd : decode μ.2.1 pc = .ok (.aload_n 1, 1))
    (k : zg_G Γ Ξ μ R Ω bc bs (pc + 1) (o0 :: some (zg_r Γ a) :: rs) (zg_r Γ a :: st) K N P V) : zg_G Γ Ξ μ R Ω bc bs pc (o0 :: some (zg_r Γ a) :: rs) st K N P V := by
  intro p e s m args below meth c H locs cells slots lz X Y
  exact lv_aload_n X.1 X.2.1 hd rfl (Y.1.2.2 1 _ rfl) (k p e s m args below meth c H locs cells slots lz X Y)
theorem zg_is1 {z : Int} (hd : decode μ.2.1 pc = .ok (.istore_n 1, 1)) (hc : ∀ w, o0 = some w → w.category = 1) (hn : 1 < μ.2.2.1)
    (k : zg_G Γ Ξ μ R Ω bc bs (pc + 1) (o0 :: some (zg_i z) :: rs) st K N P V) : zg_G Γ Ξ μ R Ω bc bs pc (o0 :: o1 :: rs) (zg_i z :: st) K N P V := by
  intro p e s m args below meth c H locs cells slots lz X Y
  exact lv_istore_n X.1 X.2.1 hd rfl (zg_lh_has Y.1) hn rfl (fun lz' h => k p e s m args below meth c H locs cells slots lz' X ⟨zg_lh_store (fun w _ h => hc w (Option.some.inj h)) h, Y.2⟩)
theorem zg_as1 {a : Nat} (hd : decode μ.2.1 pc = .ok (.astore_n 1, 1)) (hc : ∀ w, o0 = some w → w.category = 1) (hn : 1 < μ.2.2.1)
    (k : zg_G Γ Ξ μ R Ω bc bs (pc + 1) (o0 :: some (zg_r Γ a) :: rs) st K N P V) : zg_G Γ Ξ μ R Ω bc bs pc (o0 :: o1 :: rs) (zg_r Γ a :: st) K N P V := by
  intro p e s m args below meth c H locs cells slots lz X Y
  exact lv_astore_n X.1 X.2.1 hd rfl (zg_lh_has Y.1) hn rfl (fun lz' h => k p e s m args below meth c H locs cells slots lz' X ⟨zg_lh_store (fun w _ h => hc w (Option.some.inj h)) h, Y.2⟩)
theorem zg_ls1 {z : Int} (hd : decode μ.2.1 pc = .ok (.lstore_n 1, 1)) (hc : ∀ w, o0 = some w → w.category = 1) (hn : 1 + 1 < μ.2.2.1)
    (k : zg_G Γ Ξ μ R Ω bc bs (pc + 1) (o0 :: some (zg_l z) :: none :: rs) st K N P V) : zg_G Γ Ξ μ R Ω bc bs pc (o0 :: o1 :: o2 :: rs) (zg_l z :: st) K N P V := by
  intro p e s m args below meth c H locs cells slots lz X Y
  exact lv_lstore_n X.1 X.2.1 hd rfl (zg_lh_has Y.1) hn rfl (fun lz' h => k p e s m args below meth c H locs cells slots lz' X ⟨zg_lh_store2 (fun w _ h => hc w (Option.some.inj h)) h, Y.2⟩)
theorem zg_inc1 {z n : Int} (hd : decode μ.2.1 pc = .ok (.iinc 1 n, 3)) (hc : ∀ w, o0 = some w → w.category = 1) (hn : 1 < μ.2.2.1)
    (k : zg_G Γ Ξ μ R Ω bc bs (pc + 3) (o0 :: some (zg_i (z + n)) :: rs) st K N P V) : zg_G Γ Ξ μ R Ω bc bs pc (o0 :: some (zg_i z) :: rs) st K N P V := by
  intro p e s m args below meth c H locs cells slots lz X Y
  obtain ⟨kx, hkx⟩ := List.getElem?_of_mem (zg_pr_mem.mpr (show (o0 :: some (zg_i z) :: rs)[1]? = some (some (zg_i z)) from rfl))
  exact lv_iinc (v := Int32.ofInt (z + n)) X.1 X.2.1 hd (zg_lh_has Y.1) hkx (Int32.ofInt_add z n).symm hn rfl (fun lz' h => k p e s m args below meth c H locs cells slots lz' X ⟨zg_lh_store (fun w _ h => hc w (Option.some.inj h)) h, Y.2⟩)
theorem zg_il2 {z : Int} (hd : decode μ.2.1 pc = .ok (.iload_n 2, 1))
    (k : zg_G Γ Ξ μ R Ω bc bs (pc + 1) (o0 :: o1 :: some (zg_i z) :: rs) (zg_i z :: st) K N P V) : zg_G Γ Ξ μ R Ω bc bs pc (o0 :: o1 :: some (zg_i z) :: rs) st K N P V := by
  intro p e s m args below meth c H locs cells slots lz X Y
  exact lv_iload_n X.1 X.2.1 hd rfl (Y.1.2.2 2 _ rfl) (k p e s m args below meth c H locs cells slots lz X Y)
theorem zg_ll2 {z : Int} (hd : decode μ.2.1 pc = .ok (.lload_n 2, 1))
    (k : zg_G Γ Ξ μ R Ω bc bs (pc + 1) (o0 :: o1 :: some (zg_l z) :: rs) (zg_l z :: st) K N P V) : zg_G Γ Ξ μ R Ω bc bs pc (o0 :: o1 :: some (zg_l z) :: rs) st K N P V := by
  intro p e s m args below meth c H locs cells slots lz X Y
  exact lv_lload_n X.1 X.2.1 hd rfl (Y.1.2.2 2 _ rfl) (k p e s m args below meth c H locs cells slots lz X Y)
theorem zg_al2 {a : Nat} (hd : decode μ.2.1 pc = .ok (.aload_n 2, 1))
    (k : zg_G Γ Ξ μ R Ω bc bs (pc + 1) (o0 :: o1 :: some (zg_r Γ a) :: rs) (zg_r Γ a :: st) K N P V) : zg_G Γ Ξ μ R Ω bc bs pc (o0 :: o1 :: some (zg_r Γ a) :: rs) st K N P V := by
  intro p e s m args below meth c H locs cells slots lz X Y
  exact lv_aload_n X.1 X.2.1 hd rfl (Y.1.2.2 2 _ rfl) (k p e s m args below meth c H locs cells slots lz X Y)
theorem zg_is2 {z : Int} (hd : decode μ.2.1 pc = .ok (.istore_n 2, 1)) (hc : ∀ w, o1 = some w → w.category = 1) (hn : 2 < μ.2.2.1)
    (k : zg_G Γ Ξ μ R Ω bc bs (pc + 1) (o0 :: o1 :: some (zg_i z) :: rs) st K N P V) : zg_G Γ Ξ μ R Ω bc bs pc (o0 :: o1 :: o2 :: rs) (zg_i z :: st) K N P V := by
  intro p e s m args below meth c H locs cells slots lz X Y
  exact lv_istore_n X.1 X.2.1 hd rfl (zg_lh_has Y.1) hn rfl (fun lz' h => k p e s m args below meth c H locs cells slots lz' X ⟨zg_lh_store (fun w _ h => hc w (Option.some.inj h)) h, Y.2⟩)
theorem zg_as2 {a : Nat} (hd : decode μ.2.1 pc = .ok (.astore_n 2, 1)) (hc : ∀ w, o1 = some w → w.category = 1) (hn : 2 < μ.2.2.1)
    (k : zg_G Γ Ξ μ R Ω bc bs (pc + 1) (o0 :: o1 :: some (zg_r Γ a) :: rs) st K N P V) : zg_G Γ Ξ μ R Ω bc bs pc (o0 :: o1 :: o2 :: rs) (zg_r Γ a :: st) K N P V := by
  intro p e s m args below meth c H locs cells slots lz X Y
  exact lv_astore_n X.1 X.2.1 hd rfl (zg_lh_has Y.1) hn rfl (fun lz' h => k p e s m args below meth c H locs cells slots lz' X ⟨zg_lh_store (fun w _ h => hc w (Option.some.inj h)) h, Y.2⟩)
theorem zg_ls2 {z : Int} (hd : decode μ.2.1 pc = .ok (.lstore_n 2, 1)) (hc : ∀ w, o1 = some w → w.category = 1) (hn : 2 + 1 < μ.2.2.1)
    (k : zg_G Γ Ξ μ R Ω bc bs (pc + 1) (o0 :: o1 :: some (zg_l z) :: none :: rs) st K N P V) : zg_G Γ Ξ μ R Ω bc bs pc (o0 :: o1 :: o2 :: o3 :: rs) (zg_l z :: st) K N P V := by
  intro p e s m args below meth c H locs cells slots lz X Y
  exact lv_lstore_n X.1 X.2.1 hd rfl (zg_lh_has Y.1) hn rfl (fun lz' h => k p e s m args below meth c H locs cells slots lz' X ⟨zg_lh_store2 (fun w _ h => hc w (Option.some.inj h)) h, Y.2⟩)
theorem zg_inc2 {z n : Int} (hd : decode μ.2.1 pc = .ok (.iinc 2 n, 3)) (hc : ∀ w, o1 = some w → w.category = 1) (hn : 2 < μ.2.2.1)
    (k : zg_G Γ Ξ μ R Ω bc bs (pc + 3) (o0 :: o1 :: some (zg_i (z + n)) :: rs) st K N P V) : zg_G Γ Ξ μ R Ω bc bs pc (o0 :: o1 :: some (zg_i z) :: rs) st K N P V := by
  intro p e s m args below meth c H locs cells slots lz X Y
  obtain ⟨kx, hkx⟩ := List.getElem?_of_mem (zg_pr_mem.mpr (show (o0 :: o1 :: some (zg_i z) :: rs)[2]? = some (some (zg_i z)) from rfl))
  exact lv_iinc (v := Int32.ofInt (z + n)) X.1 X.2.1 hd (zg_lh_has Y.1) hkx (Int32.ofInt_add z n).symm hn rfl (fun lz' h => k p e s m args below meth c H locs cells slots lz' X ⟨zg_lh_store (fun w _ h => hc w (Option.some.inj h)) h, Y.2⟩)
theorem zg_il3 {z : Int} (hd : decode μ.2.1 pc = .ok (.iload_n 3, 1))
    (k : zg_G Γ Ξ μ R Ω bc bs (pc + 1) (o0 :: o1 :: o2 :: some (zg_i z) :: rs) (zg_i z :: st) K N P V) : zg_G Γ Ξ μ R Ω bc bs pc (o0 :: o1 :: o2 :: some (zg_i z) :: rs) st K N P V := by
  intro p e s m args below meth c H locs cells slots lz X Y
  exact lv_iload_n X.1 X.2.1 hd rfl (Y.1.2.2 3 _ rfl) (k p e s m args below meth c H locs cells slots lz X Y)
theorem zg_ll3 {z : Int} (hd : decode μ.2.1 pc = .ok (.lload_n 3, 1))
    (k : zg_G Γ Ξ μ R Ω bc bs (pc + 1) (o0 :: o1 :: o2 :: some (zg_l z) :: rs) (zg_l z :: st) K N P V) : zg_G Γ Ξ μ R Ω bc bs pc (o0 :: o1 :: o2 :: some (zg_l z) :: rs) st K N P V := by
  intro p e s m args below meth c H locs cells slots lz X Y
  exact lv_lload_n X.1 X.2.1 hd rfl (Y.1.2.2 3 _ rfl) (k p e s m args below meth c H locs cells slots lz X Y)
theorem zg_al3 {a : Nat} (hd : decode μ.2.1 pc = .ok (.aload_n 3, 1))
    (k : zg_G Γ Ξ μ R Ω bc bs (pc + 1) (o0 :: o1 :: o2 :: some (zg_r Γ a) :: rs) (zg_r Γ a :: st) K N P V) : zg_G Γ Ξ μ R Ω bc bs pc (o0 :: o1 :: o2 :: some (zg_r Γ a) :: rs) st K N P V := by
  intro p e s m args below meth c H locs cells slots lz X Y
  exact lv_aload_n X.1 X.2.1 hd rfl (Y.1.2.2 3 _ rfl) (k p e s m args below meth c H locs cells slots lz X Y)
theorem zg_is3 {z : Int} (hd : decode μ.2.1 pc = .ok (.istore_n 3, 1)) (hc : ∀ w, o2 = some w → w.category = 1) (hn : 3 < μ.2.2.1)
    (k : zg_G Γ Ξ μ R Ω bc bs (pc + 1) (o0 :: o1 :: o2 :: some (zg_i z) :: rs) st K N P V) : zg_G Γ Ξ μ R Ω bc bs pc (o0 :: o1 :: o2 :: o3 :: rs) (zg_i z :: st) K N P V := by
  intro p e s m args below meth c H locs cells slots lz X Y
  exact lv_istore_n X.1 X.2.1 hd rfl (zg_lh_has Y.1) hn rfl (fun lz' h => k p e s m args below meth c H locs cells slots lz' X ⟨zg_lh_store (fun w _ h => hc w (Option.some.inj h)) h, Y.2⟩)
theorem zg_as3 {a : Nat} (hd : decode μ.2.1 pc = .ok (.astore_n 3, 1)) (hc : ∀ w, o2 = some w → w.category = 1) (hn : 3 < μ.2.2.1)
    (k : zg_G Γ Ξ μ R Ω bc bs (pc + 1) (o0 :: o1 :: o2 :: some (zg_r Γ a) :: rs) st K N P V) : zg_G Γ Ξ μ R Ω bc bs pc (o0 :: o1 :: o2 :: o3 :: rs) (zg_r Γ a :: st) K N P V := by
  intro p e s m args below meth c H locs cells slots lz X Y
  exact lv_astore_n X.1 X.2.1 hd rfl (zg_lh_has Y.1) hn rfl (fun lz' h => k p e s m args below meth c H locs cells slots lz' X ⟨zg_lh_store (fun w _ h => hc w (Option.some.inj h)) h, Y.2⟩)
theorem zg_ls3 {z : Int} (hd : decode μ.2.1 pc = .ok (.lstore_n 3, 1)) (hc : ∀ w, o2 = some w → w.category = 1) (hn : 3 + 1 < μ.2.2.1)
    (k : zg_G Γ Ξ μ R Ω bc bs (pc + 1) (o0 :: o1 :: o2 :: some (zg_l z) :: none :: rs) st K N P V) : zg_G Γ Ξ μ R Ω bc bs pc (o0 :: o1 :: o2 :: o3 :: o4 :: rs) (zg_l z :: st) K N P V := by
  intro p e s m args below meth c H locs cells slots lz X Y
  exact lv_lstore_n X.1 X.2.1 hd rfl (zg_lh_has Y.1) hn rfl (fun lz' h => k p e s m args below meth c H locs cells slots lz' X ⟨zg_lh_store2 (fun w _ h => hc w (Option.some.inj h)) h, Y.2⟩)
theorem zg_inc3 {z n : Int} (hd : decode μ.2.1 pc = .ok (.iinc 3 n, 3)) (hc : ∀ w, o2 = some w → w.category = 1) (hn : 3 < μ.2.2.1)
    (k : zg_G Γ Ξ μ R Ω bc bs (pc + 3) (o0 :: o1 :: o2 :: some (zg_i (z + n)) :: rs) st K N P V) : zg_G Γ Ξ μ R Ω bc bs pc (o0 :: o1 :: o2 :: some (zg_i z) :: rs) st K N P V := by
  intro p e s m args below meth c H locs cells slots lz X Y
  obtain ⟨kx, hkx⟩ := List.getElem?_of_mem (zg_pr_mem.mpr (show (o0 :: o1 :: o2 :: some (zg_i z) :: rs)[3]? = some (some (zg_i z)) from rfl))
  exact lv_iinc (v := Int32.ofInt (z + n)) X.1 X.2.1 hd (zg_lh_has Y.1) hkx (Int32.ofInt_add z n).symm hn rfl (fun lz' h => k p e s m args below meth c H locs cells slots lz' X ⟨zg_lh_store (fun w _ h => hc w (Option.some.inj h)) h, Y.2⟩)
theorem zg_il4 {z : Int} (hd : decode μ.2.1 pc = .ok (.iload 4, 2))
    (k : zg_G Γ Ξ μ R Ω bc bs (pc + 2) (o0 :: o1 :: o2 :: o3 :: some (zg_i z) :: rs) (zg_i z :: st) K N P V) : zg_G Γ Ξ μ R Ω bc bs pc (o0 :: o1 :: o2 :: o3 :: some (zg_i z) :: rs) st K N P V := by
  intro p e s m args below meth c H locs cells slots lz X Y
  exact lv_iload X.1 X.2.1 hd (Y.1.2.2 4 _ rfl) (k p e s m args below meth c H locs cells slots lz X Y)
theorem zg_ll4 {z : Int} (hd : decode μ.2.1 pc = .ok (.lload 4, 2))
    (k : zg_G Γ Ξ μ R Ω bc bs (pc + 2) (o0 :: o1 :: o2 :: o3 :: some (zg_l z) :: rs) (zg_l z :: st) K N P V) : zg_G Γ Ξ μ R Ω bc bs pc (o0 :: o1 :: o2 :: o3 :: some (zg_l z) :: rs) st K N P V := by
  intro p e s m args below meth c H locs cells slots lz X Y
  exact lv_lload X.1 X.2.1 hd (Y.1.2.2 4 _ rfl) (k p e s m args below meth c H locs cells slots lz X Y)
theorem zg_al4 {a : Nat} (hd : decode μ.2.1 pc = .ok (.aload 4, 2))
    (k : zg_G Γ Ξ μ R Ω bc bs (pc + 2) (o0 :: o1 :: o2 :: o3 :: some (zg_r Γ a) :: rs) (zg_r Γ a :: st) K N P V) : zg_G Γ Ξ μ R Ω bc bs pc (o0 :: o1 :: o2 :: o3 :: some (zg_r Γ a) :: rs) st K N P V := by
  intro p e s m args below meth c H locs cells slots lz X Y
  exact lv_aload X.1 X.2.1 hd (Y.1.2.2 4 _ rfl) (k p e s m args below meth c H locs cells slots lz X Y)
theorem zg_is4 {z : Int} (hd : decode μ.2.1 pc = .ok (.istore 4, 2)) (hc : ∀ w, o3 = some w → w.category = 1) (hn : 4 < μ.2.2.1)
    (k : zg_G Γ Ξ μ R Ω bc bs (pc + 2) (o0 :: o1 :: o2 :: o3 :: some (zg_i z) :: rs) st K N P V) : zg_G Γ Ξ μ R Ω bc bs pc (o0 :: o1 :: o2 :: o3 :: o4 :: rs) (zg_i z :: st) K N P V := by
  intro p e s m args below meth c H locs cells slots lz X Y
  exact lv_istore X.1 X.2.1 hd (zg_lh_has Y.1) hn rfl (fun lz' h => k p e s m args below meth c H locs cells slots lz' X ⟨zg_lh_store (fun w _ h => hc w (Option.some.inj h)) h, Y.2⟩)
theorem zg_as4 {a : Nat} (hd : decode μ.2.1 pc = .ok (.astore 4, 2)) (hc : ∀ w, o3 = some w → w.category = 1) (hn : 4 < μ.2.2.1)
    (k : zg_G Γ Ξ μ R Ω bc bs (pc + 2) (o0 :: o1 :: o2 :: o3 :: some (zg_r Γ a) :: rs) st K N P V) : zg_G Γ Ξ μ R Ω bc bs pc (o0 :: o1 :: o2 :: o3 :: o4 :: rs) (zg_r Γ a :: st) K N P V := by
  intro p e s m args below meth c H locs cells slots lz X Y
  exact lv_astore X.1 X.2.1 hd (zg_lh_has Y.1) hn rfl (fun lz' h => k p e s m args below meth c H locs cells slots lz' X ⟨zg_lh_store (fun w _ h => hc w (Option.some.inj h)) h, Y.2⟩)
theorem zg_ls4 {z : Int} (hd : decode μ.2.1 pc = .ok (.lstore 4, 2)) (hc : ∀ w, o3 = some w → w.category = 1) (hn : 4 + 1 < μ.2.2.1)
    (k : zg_G Γ Ξ μ R Ω bc bs (pc + 2) (o0 :: o1 :: o2 :: o3 :: some (zg_l z) :: none :: rs) st K N P V) : zg_G Γ Ξ μ R Ω bc bs pc (o0 :: o1 :: o2 :: o3 :: o4 :: o5 :: rs) (zg_l z :: st) K N P V := by
  intro p e s m args below meth c H locs cells slots lz X Y
  exact lv_lstore X.1 X.2.1 hd (zg_lh_has Y.1) hn rfl (fun lz' h => k p e s m args below meth c H locs cells slots lz' X ⟨zg_lh_store2 (fun w _ h => hc w (Option.some.inj h)) h, Y.2⟩)
theorem zg_inc4 {z n : Int} (hd : decode μ.2.1 pc = .ok (.iinc 4 n, 3)) (hc : ∀ w, o3 = some w → w.category = 1) (hn : 4 < μ.2.2.1)
    (k : zg_G Γ Ξ μ R Ω bc bs (pc + 3) (o0 :: o1 :: o2 :: o3 :: some (zg_i (z + n)) :: rs) st K N P V) : zg_G Γ Ξ μ R Ω bc bs pc (o0 :: o1 :: o2 :: o3 :: some (zg_i z) :: rs) st K N P V := by
  intro p e s m args below meth c H locs cells slots lz X Y
  obtain ⟨kx, hkx⟩ := List.getElem?_of_mem (zg_pr_mem.mpr (show (o0 :: o1 :: o2 :: o3 :: some (zg_i z) :: rs)[4]? = some (some (zg_i z)) from rfl))
  exact lv_iinc (v := Int32.ofInt (z + n)) X.1 X.2.1 hd (zg_lh_has Y.1) hkx (Int32.ofInt_add z n).symm hn rfl (fun lz' h => k p e s m args below meth c H locs cells slots lz' X ⟨zg_lh_store (fun w _ h => hc w (Option.some.inj h)) h, Y.2⟩)
theorem zg_il5 {z : Int} (hd : decode μ.2.1 pc = .ok (.iload 5, 2))
    (k : zg_G Γ Ξ μ R Ω bc bs (pc + 2) (o0 :: o1 :: o2 :: o3 :: o4 :: some (zg_i z) :: rs) (zg_i z :: st) K N P V) : zg_G Γ Ξ μ R Ω bc bs pc (o0 :: o1 :: o2 :: o3 :: o4 :: some (zg_i z) :: rs) st K N P V := by
  intro p e s m args below meth c H locs cells slots lz X Y
  exact lv_iload X.1 X.2.1 hd (Y.1.2.2 5 _ rfl) (k p e s m args below meth c H locs cells slots lz X Y)
theorem zg_ll5 {z : Int} (hd : decode μ.2.1 pc = .ok (.lload 5, 2))
    (k : zg_G Γ Ξ μ R Ω bc bs (pc + 2) (o0 :: o1 :: o2 :: o3 :: o4 :: some (zg_l z) :: rs) (zg_l z :: st) K N P V) : zg_G Γ Ξ μ R Ω bc bs pc (o0 :: o1 :: o2 :: o3 :: o4 :: some (zg_l z) :: rs) st K N P V := by
  intro p e s m args below meth c H locs cells slots lz X Y
  exact lv_lload X.1 X.2.1 hd (Y.1.2.2 5 _ rfl) (k p e s m args below meth c H locs cells slots lz X Y)
theorem zg_al5 {a : Nat} (hd : decode μ.2.1 pc = .ok (.aload 5, 2))
    (k : zg_G Γ Ξ μ R Ω bc bs (pc + 2) (o0 :: o1 :: o2 :: o3 :: o4 :: some (zg_r Γ a) :: rs) (zg_r Γ a :: st) K N P V) : zg_G Γ Ξ μ R Ω bc bs pc (o0 :: o1 :: o2 :: o3 :: o4 :: some (zg_r Γ a) :: rs) st K N P V := by
  intro p e s m args below meth c H locs cells slots lz X Y
  exact lv_aload X.1 X.2.1 hd (Y.1.2.2 5 _ rfl) (k p e s m args below meth c H locs cells slots lz X Y)
theorem zg_is5 {z : Int} (hd : decode μ.2.1 pc = .ok (.istore 5, 2)) (hc : ∀ w, o4 = some w → w.category = 1) (hn : 5 < μ.2.2.1)
    (k : zg_G Γ Ξ μ R Ω bc bs (pc + 2) (o0 :: o1 :: o2 :: o3 :: o4 :: some (zg_i z) :: rs) st K N P V) : zg_G Γ Ξ μ R Ω bc bs pc (o0 :: o1 :: o2 :: o3 :: o4 :: o5 :: rs) (zg_i z :: st) K N P V := by
  intro p e s m args below meth c H locs cells slots lz X Y
  exact lv_istore X.1 X.2.1 hd (zg_lh_has Y.1) hn rfl (fun lz' h => k p e s m args below meth c H locs cells slots lz' X ⟨zg_lh_store (fun w _ h => hc w (Option.some.inj h)) h, Y.2⟩)
theorem zg_as5 {a : Nat} (hd : decode μ.2.1 pc = .ok (.astore 5, 2)) (hc : ∀ w, o4 = some w → w.category = 1) (hn : 5 < μ.2.2.1)
    (k : zg_G Γ Ξ μ R Ω bc bs (pc + 2) (o0 :: o1 :: o2 :: o3 :: o4 :: some (zg_r Γ a) :: rs) st K N P V) : zg_G Γ Ξ μ R Ω bc bs pc (o0 :: o1 :: o2 :: o3 :: o4 :: o5 :: rs) (zg_r Γ a :: st) K N P V := by
  intro p e s m args below meth c H locs cells slots lz X Y
  exact lv_astore X.1 X.2.1 hd (zg_lh_has Y.1) hn rfl (fun lz' h => k p e s m args below meth c H locs cells slots lz' X ⟨zg_lh_store (fun w _ h => hc w (Option.some.inj h)) h, Y.2⟩)
theorem zg_ls5 {z : Int} (hd : decode μ.2.1 pc = .ok (.lstore 5, 2)) (hc : ∀ w, o4 = some w → w.category = 1) (hn : 5 + 1 < μ.2.2.1)
    (k : zg_G Γ Ξ μ R Ω bc bs (pc + 2) (o0 :: o1 :: o2 :: o3 :: o4 :: some (zg_l z) :: none :: rs) st K N P V) : zg_G Γ Ξ μ R Ω bc bs pc (o0 :: o1 :: o2 :: o3 :: o4 :: o5 :: o6 :: rs) (zg_l z :: st) K N P V := by
  intro p e s m args below meth c H locs cells slots lz X Y
  exact lv_lstore X.1 X.2.1 hd (zg_lh_has Y.1) hn rfl (fun lz' h => k p e s m args below meth c H locs cells slots lz' X ⟨zg_lh_store2 (fun w _ h => hc w (Option.some.inj h)) h, Y.2⟩)
theorem zg_inc5 {z n : Int} (hd : decode μ.2.1 pc = .ok (.iinc 5 n, 3)) (hc : ∀ w, o4 = some w → w.category = 1) (hn : 5 < μ.2.2.1)
    (k : zg_G Γ Ξ μ R Ω bc bs (pc + 3) (o0 :: o1 :: o2 :: o3 :: o4 :: some (zg_i (z + n)) :: rs) st K N P V) : zg_G Γ Ξ μ R Ω bc bs pc (o0 :: o1 :: o2 :: o3 :: o4 :: some (zg_i z) :: rs) st K N P V := by
  intro p e s m args below meth c H locs cells slots lz X Y
  obtain ⟨kx, hkx⟩ := List.getElem?_of_mem (zg_pr_mem.mpr (show (o0 :: o1 :: o2 :: o3 :: o4 :: some (zg_i z) :: rs)[5]? = some (some (zg_i z)) from rfl))
  exact lv_iinc (v := Int32.ofInt (z + n)) X.1 X.2.1 hd (zg_lh_has Y.1) hkx (Int32.ofInt_add z n).symm hn rfl (fun lz' h => k p e s m args below meth c H locs cells slots lz' X ⟨zg_lh_store (fun w _ h => hc w (Option.some.inj h)) h, Y.2⟩)
theorem zg_il6 {z : Int} (hd : decode μ.2.1 pc = .ok (.iload 6, 2))
    (k : zg_G Γ Ξ μ R Ω bc bs (pc + 2) (o0 :: o1 :: o2 :: o3 :: o4 :: o5 :: some (zg_i z) :: rs) (zg_i z :: st) K N P V) : zg_G Γ Ξ μ R Ω bc bs pc (o0 :: o1 :: o2 :: o3 :: o4 :: o5 :: some (zg_i z) :: rs) st K N P V := by
  intro p e s m args below meth c H locs cells slots lz X Y
  exact lv_iload X.1 X.2.1 hd (Y.1.2.2 6 _ rfl) (k p e s m args below meth c H locs cells slots lz X Y)
theorem zg_ll6 {z : Int} (hd : decode μ.2.1 pc = .ok (.lload 6, 2))
    (k : zg_G Γ Ξ μ R Ω bc bs (pc + 2) (o0 :: o1 :: o2 :: o3 :: o4 :: o5 :: some (zg_l z) :: rs) (zg_l z :: st) K N P V) : zg_G Γ Ξ μ R Ω bc bs pc (o0 :: o1 :: o2 :: o3 :: o4 :: o5 :: some (zg_l z) :: rs) st K N P V := by
  intro p e s m args below meth c H locs cells slots lz X Y
  exact lv_lload X.1 X.2.1 hd (Y.1.2.2 6 _ rfl) (k p e s m args below meth c H locs cells slots lz X Y)
theorem zg_al6 {a : Nat} (hd : decode μ.2.1 pc = .ok (.aload 6, 2))
    (k : zg_G Γ Ξ μ R Ω bc bs (pc + 2) (o0 :: o1 :: o2 :: o3 :: o4 :: o5 :: some (zg_r Γ a) :: rs) (zg_r Γ a :: st) K N P V) : zg_G Γ Ξ μ R Ω bc bs pc (o0 :: o1 :: o2 :: o3 :: o4 :: o5 :: some (zg_r Γ a) :: rs) st K N P V := by
  intro p e s m args below meth c H locs cells slots lz X Y
  exact lv_aload X.1 X.2.1 hd (Y.1.2.2 6 _ rfl) (k p e s m args below meth c H locs cells slots lz X Y)
theorem zg_is6 {z : Int} (hd : decode μ.2.1 pc = .ok (.istore 6, 2)) (hc : ∀ w, o5 = some w → w.category = 1) (hn : 6 < μ.2.2.1)
    (k : zg_G Γ Ξ μ R Ω bc bs (pc + 2) (o0 :: o1 :: o2 :: o3 :: o4 :: o5 :: some (zg_i z) :: rs) st K N P V) : zg_G Γ Ξ μ R Ω bc bs pc (o0 :: o1 :: o2 :: o3 :: o4 :: o5 :: o6 :: rs) (zg_i z :: st) K N P V := by
  intro p e s m args below meth c H locs cells slots lz X Y
  exact lv_istore X.1 X.2.1 hd (zg_lh_has Y.1) hn rfl (fun lz' h => k p e s m args below meth c H locs cells slots lz' X ⟨zg_lh_store (fun w _ h => hc w (Option.some.inj h)) h, Y.2⟩)
theorem zg_as6 {a : Nat} (hd : decode μ.2.1 pc = .ok (.astore 6, 2)) (hc : ∀ w, o5 = some w → w.category = 1) (hn : 6 < μ.2.2.1)
    (k : zg_G Γ Ξ μ R Ω bc bs (pc + 2) (o0 :: o1 :: o2 :: o3 :: o4 :: o5 :: some (zg_r Γ a) :: rs) st K N P V) : zg_G Γ Ξ μ R Ω bc bs pc (o0 :: o1 :: o2 :: o3 :: o4 :: o5 :: o6 :: rs) (zg_r Γ a :: st) K N P V := by
  intro p e s m args below meth c H locs cells slots lz X Y
  exact lv_astore X.1 X.2.1 hd (zg_lh_has Y.1) hn rfl (fun lz' h => k p e s m args below meth c H locs cells slots lz' X ⟨zg_lh_store (fun w _ h => hc w (Option.some.inj h)) h, Y.2⟩)
theorem zg_ls6 {z : Int} (hd : decode μ.2.1 pc = .ok (.lstore 6, 2)) (hc : ∀ w, o5 = some w → w.category = 1) (hn : 6 + 1 < μ.2.2.1)
    (k : zg_G Γ Ξ μ R Ω bc bs (pc + 2) (o0 :: o1 :: o2 :: o3 :: o4 :: o5 :: some (zg_l z) :: none :: rs) st K N P V) : zg_G Γ Ξ μ R Ω bc bs pc (o0 :: o1 :: o2 :: o3 :: o4 :: o5 :: o6 :: o7 :: rs) (zg_l z :: st) K N P V := by
  intro p e s m args below meth c H locs cells slots lz X Y
  exact lv_lstore X.1 X.2.1 hd (zg_lh_has Y.1) hn rfl (fun lz' h => k p e s m args below meth c H locs cells slots lz' X ⟨zg_lh_store2 (fun w _ h => hc w (Option.some.inj h)) h, Y.2⟩)
theorem zg_inc6 {z n : Int} (hd : decode μ.2.1 pc = .ok (.iinc 6 n, 3)) (hc : ∀ w, o5 = some w → w.category = 1) (hn : 6 < μ.2.2.1)
    (k : zg_G Γ Ξ μ R Ω bc bs (pc + 3) (o0 :: o1 :: o2 :: o3 :: o4 :: o5 :: some (zg_i (z + n)) :: rs) st K N P V) : zg_G Γ Ξ μ R Ω bc bs pc (o0 :: o1 :: o2 :: o3 :: o4 :: o5 :: some (zg_i z) :: rs) st K N P V := by
  intro p e s m args below meth c H locs cells slots lz X Y
  obtain ⟨kx, hkx⟩ := List.getElem?_of_mem (zg_pr_mem.mpr (show (o0 :: o1 :: o2 :: o3 :: o4 :: o5 :: some (zg_i z) :: rs)[6]? = some (some (zg_i z)) from rfl))
  exact lv_iinc (v := Int32.ofInt (z + n)) X.1 X.2.1 hd (zg_lh_has Y.1) hkx (Int32.ofInt_add z n).symm hn rfl (fun lz' h => k p e s m args below meth c H locs cells slots lz' X ⟨zg_lh_store (fun w _ h => hc w (Option.some.inj h)) h, Y.2⟩)
theorem zg_il7 {z : Int} (hd : decode μ.2.1 pc = .ok (.iload 7, 2))
    (k : zg_G Γ Ξ μ R Ω bc bs (pc + 2) (o0 :: o1 :: o2 :: o3 :: o4 :: o5 :: o6 :: some (zg_i z) :: rs) (zg_i z :: st) K N P V) : zg_G Γ Ξ μ R Ω bc bs pc (o0 :: o1 :: o2 :: o3 :: o4 :: o5 :: o6 :: some (zg_i z) :: rs) st K N P V := by
  intro p e s m args below meth c H locs cells slots lz X Y
  exact lv_iload X.1 X.2.1 hd (Y.1.2.2 7 _ rfl) (k p e s m args below meth c H locs cells slots lz X Y)
theorem zg_ll7 {z : Int} (hd : decode μ.2.1 pc = .ok (.lload 7, 2))
    (k : zg_G Γ Ξ μ R Ω bc bs (pc + 2) (o0 :: o1 :: o2 :: o3 :: o4 :: o5 :: o6 :: some (zg_l z) :: rs) (zg_l z :: st) K N P V) : zg_G Γ Ξ μ R Ω bc bs pc (o0 :: o1 :: o2 :: o3 :: o4 :: o5 :: o6 :: some (zg_l z) :: rs) st K N P V := by
  intro p e s m args below meth c H locs cells slots lz X Y
  exact lv_lload X.1 X.2.1 hd (Y.1.2.2 7 _ rfl) (k p e s m args below meth c H locs cells slots lz X Y)
theorem zg_al7 {a : Nat} (hd : decode μ.2.1 pc = .ok (.aload 7, 2))
    (k : zg_G Γ Ξ μ R Ω bc bs (pc + 2) (o0 :: o1 :: o2 :: o3 :: o4 :: o5 :: o6 :: some (zg_r Γ a) :: rs) (zg_r Γ a :: st) K N P V) : zg_G Γ Ξ μ R Ω bc bs pc (o0 :: o1 :: o2 :: o3 :: o4 :: o5 :: o6 :: some (zg_r Γ a) :: rs) st K N P V := by
  intro p e s m args below meth c H locs cells slots lz X Y
  exact lv_aload X.1 X.2.1 hd (Y.1.2.2 7 _ rfl) (k p e s m args below meth c H locs cells slots lz X Y)
theorem zg_is7 {z : Int} (hd : decode μ.2.1 pc = .ok (.istore 7, 2)) (hc : ∀ w, o6 = some w → w.category = 1) (hn : 7 < μ.2.2.1)
    (k : zg_G Γ Ξ μ R Ω bc bs (pc + 2) (o0 :: o1 :: o2 :: o3 :: o4 :: o5 :: o6 :: some (zg_i z) :: rs) st K N P V) : zg_G Γ Ξ μ R Ω bc bs pc (o0 :: o1 :: o2 :: o3 :: o4 :: o5 :: o6 :: o7 :: rs) (zg_i z :: st) K N P V := by
  intro p e s m args below meth c H locs cells slots lz X Y
  exact lv_istore X.1 X.2.1 hd (zg_lh_has Y.1) hn rfl (fun lz' h => k p e s m args below meth c H locs cells slots lz' X ⟨zg_lh_store (fun w _ h => hc w (Option.some.inj h)) h, Y.2⟩)
theorem zg_as7 {a : Nat} (hd : decode μ.2.1 pc = .ok (.astore 7, 2)) (hc : ∀ w, o6 = some w → w.category = 1) (hn : 7 < μ.2.2.1)
    (k : zg_G Γ Ξ μ R Ω bc bs (pc + 2) (o0 :: o1 :: o2 :: o3 :: o4 :: o5 :: o6 :: some (zg_r Γ a) :: rs) st K N P V) : zg_G Γ Ξ μ R Ω bc bs pc (o0 :: o1 :: o2 :: o3 :: o4 :: o5 :: o6 :: o7 :: rs) (zg_r Γ a :: st) K N P V := by
  intro p e s m args below meth c H locs cells slots lz X Y
  exact lv_astore X.1 X.2.1 hd (zg_lh_has Y.1) hn rfl (fun lz' h => k p e s m args below meth c H locs cells slots lz' X ⟨zg_lh_store (fun w _ h => hc w (Option.some.inj h)) h, Y.2⟩)
theorem zg_ls7 {z : Int} (hd : decode μ.2.1 pc = .ok (.lstore 7, 2)) (hc : ∀ w, o6 = some w → w.category = 1) (hn : 7 + 1 < μ.2.2.1)
    (k : zg_G Γ Ξ μ R Ω bc bs (pc + 2) (o0 :: o1 :: o2 :: o3 :: o4 :: o5 :: o6 :: some (zg_l z) :: none :: rs) st K N P V) : zg_G Γ Ξ μ R Ω bc bs pc (o0 :: o1 :: o2 :: o3 :: o4 :: o5 :: o6 :: o7 :: o8 :: rs) (zg_l z :: st) K N P V := by
  intro p e s m args below meth c H locs cells slots lz X Y
  exact lv_lstore X.1 X.2.1 hd (zg_lh_has Y.1) hn rfl (fun lz' h => k p e s m args below meth c H locs cells slots lz' X ⟨zg_lh_store2 (fun w _ h => hc w (Option.some.inj h)) h, Y.2⟩)
theorem zg_inc7 {z n : Int} (hd : decode μ.2.1 pc = .ok (.iinc 7 n, 3)) (hc : ∀ w, o6 = some w → w.category = 1) (hn : 7 < μ.2.2.1)
    (k : zg_G Γ Ξ μ R Ω bc bs (pc + 3) (o0 :: o1 :: o2 :: o3 :: o4 :: o5 :: o6 :: some (zg_i (z + n)) :: rs) st K N P V) : zg_G Γ Ξ μ R Ω bc bs pc (o0 :: o1 :: o2 :: o3 :: o4 :: o5 :: o6 :: some (zg_i z) :: rs) st K N P V := by
  intro p e s m args below meth c H locs cells slots lz X Y
  obtain ⟨kx, hkx⟩ := List.getElem?_of_mem (zg_pr_mem.mpr (show (o0 :: o1 :: o2 :: o3 :: o4 :: o5 :: o6 :: some (zg_i z) :: rs)[7]? = some (some (zg_i z)) from rfl))
  exact lv_iinc (v := Int32.ofInt (z + n)) X.1 X.2.1 hd (zg_lh_has Y.1) hkx (Int32.ofInt_add z n).symm hn rfl (fun lz' h => k p e s m args below meth c H locs cells slots lz' X ⟨zg_lh_store (fun w _ h => hc w (Option.some.inj h)) h, Y.2⟩)
theorem zg_il8 {z : Int} (hd : decode μ.2.1 pc = .ok (.iload 8, 2))
    (k : zg_G Γ Ξ μ R Ω bc bs (pc + 2) (o0 :: o1 :: o2 :: o3 :: o4 :: o5 :: o6 :: o7 :: some (zg_i z) :: rs) (zg_i z :: st) K N P V) : zg_G Γ Ξ μ R Ω bc bs pc (o0 :: o1 :: o2 :: o3 :: o4 :: o5 :: o6 :: o7 :: some (zg_i z) :: rs) st K N P V := by
  intro p e s m args below meth c H locs cells slots lz X Y
  exact lv_iload X.1 X.2.1 hd (Y.1.2.2 8 _ rfl) (k p e s m args below meth c H locs cells slots lz X Y)
theorem zg_ll8 {z : Int} (hd : decode μ.2.1 pc = .ok (.lload 8, 2))
    (k : zg_G Γ Ξ μ R Ω bc bs (pc + 2) (o0 :: o1 :: o2 :: o3 :: o4 :: o5 :: o6 :: o7 :: some (zg_l z) :: rs) (zg_l z :: st) K N P V) : zg_G Γ Ξ μ R Ω bc bs pc (o0 :: o1 :: o2 :: o3 :: o4 :: o5 :: o6 :: o7 :: some (zg_l z) :: rs) st K N P V := by
  intro p e s m args below meth c H locs cells slots lz X Y
  exact lv_lload X.1 X.2.1 hd (Y.1.2.2 8 _ rfl) (k p e s m args below meth c H locs cells slots lz X Y)
theorem zg_al8 {a : Nat} (hd : decode μ.2.1 pc = .ok (.aload 8, 2))
    (k : zg_G Γ Ξ μ R Ω bc bs (pc + 2) (o0 :: o1 :: o2 :: o3 :: o4 :: o5 :: o6 :: o7 :: some (zg_r Γ a) :: rs) (zg_r Γ a :: st) K N P V) : zg_G Γ Ξ μ R Ω bc bs pc (o0 :: o1 :: o2 :: o3 :: o4 :: o5 :: o6 :: o7 :: some (zg_r Γ a) :: rs) st K N P V := by
  intro p e s m args below meth c H locs cells slots lz X Y
  exact lv_aload X.1 X.2.1 hd (Y.1.2.2 8 _ rfl) (k p e s m args below meth c H locs cells slots lz X Y)
theorem zg_is8 {z : Int} (hd : decode μ.2.1 pc = .ok (.istore 8, 2)) (hc : ∀ w, o7 = some w → w.category = 1) (hn : 8 < μ.2.2.1)
    (k : zg_G Γ Ξ μ R Ω bc bs (pc + 2) (o0 :: o1 :: o2 :: o3 :: o4 :: o5 :: o6 :: o7 :: some (zg_i z) :: rs) st K N P V) : zg_G Γ Ξ μ R Ω bc bs pc (o0 :: o1 :: o2 :: o3 :: o4 :: o5 :: o6 :: o7 :: o8 :: rs) (zg_i z :: st) K N P V := by
  intro p e s m args below meth c H locs cells slots lz X Y
  exact lv_istore X.1 X.2.1 hd (zg_lh_has Y.1) hn rfl (fun lz' h => k p e s m args below meth c H locs cells slots lz' X ⟨zg_lh_store (fun w _ h => hc w (Option.some.inj h)) h, Y.2⟩)
theorem zg_as8 {a : Nat} (hd : decode μ.2.1 pc = .ok (.astore 8, 2)) (hc : ∀ w, o7 = some w → w.category = 1) (hn : 8 < μ.2.2.1)
    (k : zg_G Γ Ξ μ R Ω bc bs (pc + 2) (o0 :: o1 :: o2 :: o3 :: o4 :: o5 :: o6 :: o7 :: some (zg_r Γ a) :: rs) st K N P V) : zg_G Γ Ξ μ R Ω bc bs pc (o0 :: o1 :: o2 :: o3 :: o4 :: o5 :: o6 :: o7 :: o8 :: rs) (zg_r Γ a :: st) K N P V := by
  intro p e s m args below meth c H locs cells slots lz X Y
  exact lv_astore X.1 X.2.1 hd (zg_lh_has Y.1) hn rfl (fun lz' h => k p e s m args below meth c H locs cells slots lz' X ⟨zg_lh_store (fun w _ h => hc w (Option.some.inj h)) h, Y.2⟩)
theorem zg_ls8 {z : Int} (hd : decode μ.2.1 pc = .ok (.lstore 8, 2)) (hc : ∀ w, o7 = some w → w.category = 1) (hn : 8 + 1 < μ.2.2.1)
    (k : zg_G Γ Ξ μ R Ω bc bs (pc + 2) (o0 :: o1 :: o2 :: o3 :: o4 :: o5 :: o6 :: o7 :: some (zg_l z) :: none :: rs) st K N P V) : zg_G Γ Ξ μ R Ω bc bs pc (o0 :: o1 :: o2 :: o3 :: o4 :: o5 :: o6 :: o7 :: o8 :: o9 :: rs) (zg_l z :: st) K N P V := by
  intro p e s m args below meth c H locs cells slots lz X Y
  exact lv_lstore X.1 X.2.1 hd (zg_lh_has Y.1) hn rfl (fun lz' h => k p e s m args below meth c H locs cells slots lz' X ⟨zg_lh_store2 (fun w _ h => hc w (Option.some.inj h)) h, Y.2⟩)
theorem zg_inc8 {z n : Int} (hd : decode μ.2.1 pc = .ok (.iinc 8 n, 3)) (hc : ∀ w, o7 = some w → w.category = 1) (hn : 8 < μ.2.2.1)
    (k : zg_G Γ Ξ μ R Ω bc bs (pc + 3) (o0 :: o1 :: o2 :: o3 :: o4 :: o5 :: o6 :: o7 :: some (zg_i (z + n)) :: rs) st K N P V) : zg_G Γ Ξ μ R Ω bc bs pc (o0 :: o1 :: o2 :: o3 :: o4 :: o5 :: o6 :: o7 :: some (zg_i z) :: rs) st K N P V := by
  intro p e s m args below meth c H locs cells slots lz X Y
  obtain ⟨kx, hkx⟩ := List.getElem?_of_mem (zg_pr_mem.mpr (show (o0 :: o1 :: o2 :: o3 :: o4 :: o5 :: o6 :: o7 :: some (zg_i z) :: rs)[8]? = some (some (zg_i z)) from rfl))
  exact lv_iinc (v := Int32.ofInt (z + n)) X.1 X.2.1 hd (zg_lh_has Y.1) hkx (Int32.ofInt_add z n).symm hn rfl (fun lz' h => k p e s m args below meth c H locs cells slots lz' X ⟨zg_lh_store (fun w _ h => hc w (Option.some.inj h)) h, Y.2⟩)
theorem zg_il9 {z : Int} (hd : decode μ.2.1 pc = .ok (.iload 9, 2))
    (k : zg_G Γ Ξ μ R Ω bc bs (pc + 2) (o0 :: o1 :: o2 :: o3 :: o4 :: o5 :: o6 :: o7 :: o8 :: some (zg_i z) :: rs) (zg_i z :: st) K N P V) : zg_G Γ Ξ μ R Ω bc bs pc (o0 :: o1 :: o2 :: o3 :: o4 :: o5 :: o6 :: o7 :: o8 :: some (zg_i z) :: rs) st K N P V := by
  intro p e s m args below meth c H locs cells slots lz X Y
  exact lv_iload X.1 X.2.1 hd (Y.1.2.2 9 _ rfl) (k p e s m args below meth c H locs cells slots lz X Y)
theorem zg_ll9 {z : Int} (hd : decode μ.2.1 pc = .ok (.lload 9, 2))
    (k : zg_G Γ Ξ μ R Ω bc bs (pc + 2) (o0 :: o1 :: o2 :: o3 :: o4 :: o5 :: o6 :: o7 :: o8 :: some (zg_l z) :: rs) (zg_l z :: st) K N P V) : zg_G Γ Ξ μ R Ω bc bs pc (o0 :: o1 :: o2 :: o3 :: o4 :: o5 :: o6 :: o7 :: o8 :: some (zg_l z) :: rs) st K N P V := by
  intro p e s m args below meth c H locs cells slots lz X Y
  exact lv_lload X.1 X.2.1 hd (Y.1.2.2 9 _ rfl) (k p e s m args below meth c H locs cells slots lz X Y)
theorem zg_al9 {a : Nat} (hd : decode μ.2.1 pc = .ok (.aload 9, 2))
    (k : zg_G Γ Ξ μ R Ω bc bs (pc + 2) (o0 :: o1 :: o2 :: o3 :: o4 :: o5 :: o6 :: o7 :: o8 :: some (zg_r Γ a) :: rs) (zg_r Γ a :: st) K N P V) : zg_G Γ Ξ μ R Ω bc bs pc (o0 :: o1 :: o2 :: o3 :: o4 :: o5 :: o6 :: o7 :: o8 :: some (zg_r Γ a) :: rs) st K N P V := by
  intro p e s m args below meth c H locs cells slots lz X Y
  exact lv_aload X.1 X.2.1 hd (Y.1.2.2 9 _ rfl) (k p e s m args below meth c H locs cells slots lz X Y)
theorem zg_is9 {z : Int} (hd : decode μ.2.1 pc = .ok (.istore 9, 2)) (hc : ∀ w, o8 = some w → w.category = 1) (hn : 9 < μ.2.2.1)
    (k : zg_G Γ Ξ μ R Ω bc bs (pc + 2) (o0 :: o1 :: o2 :: o3 :: o4 :: o5 :: o6 :: o7 :: o8 :: some (zg_i z) :: rs) st K N P V) : zg_G Γ Ξ μ R Ω bc bs pc (o0 :: o1 :: o2 :: o3 :: o4 :: o5 :: o6 :: o7 :: o8 :: o9 :: rs) (zg_i z :: st) K N P V := by
  intro p e s m args below meth c H locs cells slots lz X Y
  exact lv_istore X.1 X.2.1 hd (zg_lh_has Y.1) hn rfl (fun lz' h => k p e s m args below meth c H locs cells slots lz' X ⟨zg_lh_store (fun w _ h => hc w (Option.some.inj h)) h, Y.2⟩)
theorem zg_as9 {a : Nat} (hd : decode μ.2.1 pc = .ok (.astore 9, 2)) (hc : ∀ w, o8 = some w → w.category = 1) (hn : 9 < μ.2.2.1)
    (k : zg_G Γ Ξ μ R Ω bc bs (pc + 2) (o0 :: o1 :: o2 :: o3 :: o4 :: o5 :: o6 :: o7 :: o8 :: some (zg_r Γ a) :: rs) st K N P V) : zg_G Γ Ξ μ R Ω bc bs pc (o0 :: o1 :: o2 :: o3 :: o4 :: o5 :: o6 :: o7 :: o8 :: o9 :: rs) (zg_r Γ a :: st) K N P V := by
  intro p e s m args below meth c H locs cells slots lz X Y
  exact lv_astore X.1 X.2.1 hd (zg_lh_has Y.1) hn rfl (fun lz' h => k p e s m args below meth c H locs cells slots lz' X ⟨zg_lh_store (fun w _ h => hc w (Option.some.inj h)) h, Y.2⟩)
theorem zg_ls9 {z : Int} (hd : decode μ.2.1 pc = .ok (.lstore 9, 2)) (hc : ∀ w, o8 = some w → w.category = 1) (hn : 9 + 1 < μ.2.2.1)
    (k : zg_G Γ Ξ μ R Ω bc bs (pc + 2) (o0 :: o1 :: o2 :: o3 :: o4 :: o5 :: o6 :: o7 :: o8 :: some (zg_l z) :: none :: rs) st K N P V) : zg_G Γ Ξ μ R Ω bc bs pc (o0 :: o1 :: o2 :: o3 :: o4 :: o5 :: o6 :: o7 :: o8 :: o9 :: o10 :: rs) (zg_l z :: st) K N P V := by
  intro p e s m args below meth c H locs cells slots lz X Y
  exact lv_lstore X.1 X.2.1 hd (zg_lh_has Y.1) hn rfl (fun lz' h => k p e s m args below meth c H locs cells slots lz' X ⟨zg_lh_store2 (fun w _ h => hc w (Option.some.inj h)) h, Y.2⟩)
theorem zg_inc9 {z n : Int} (hd : decode μ.2.1 pc = .ok (.iinc 9 n, 3)) (hc : ∀ w, o8 = some w → w.category = 1) (hn : 9 < μ.2.2.1)
    (k : zg_G Γ Ξ μ R Ω bc bs (pc + 3) (o0 :: o1 :: o2 :: o3 :: o4 :: o5 :: o6 :: o7 :: o8 :: some (zg_i (z + n)) :: rs) st K N P V) : zg_G Γ Ξ μ R Ω bc bs pc (o0 :: o1 :: o2 :: o3 :: o4 :: o5 :: o6 :: o7 :: o8 :: some (zg_i z) :: rs) st K N P V := by
  intro p e s m args below meth c H locs cells slots lz X Y
  obtain ⟨kx, hkx⟩ := List.getElem?_of_mem (zg_pr_mem.mpr (show (o0 :: o1 :: o2 :: o3 :: o4 :: o5 :: o6 :: o7 :: o8 :: some (zg_i z) :: rs)[9]? = some (some (zg_i z)) from rfl))
  exact lv_iinc (v := Int32.ofInt (z + n)) X.1 X.2.1 hd (zg_lh_has Y.1) hkx (Int32.ofInt_add z n).symm hn rfl (fun lz' h => k p e s m args below meth c H locs cells slots lz' X ⟨zg_lh_store (fun w _ h => hc w (Option.some.inj h)) h, Y.2⟩)
theorem zg_il10 {z : Int} (hd : decode μ.2.1 pc = .ok (.iload 10, 2))
    (k : zg_G Γ Ξ μ R Ω bc bs (pc + 2) (o0 :: o1 :: o2 :: o3 :: o4 :: o5 :: o6 :: o7 :: o8 :: o9 :: some (zg_i z) :: rs) (zg_i z :: st) K N P V) : zg_G Γ Ξ μ R Ω bc bs pc (o0 :: o1 :: o2 :: o3 :: o4 :: o5 :: o6 :: o7 :: o8 :: o9 :: some (zg_i z) :: rs) st K N P V := by
  intro p e s m args below meth c H locs cells slots lz X Y
  exact lv_iload X.1 X.2.1 hd (Y.1.2.2 10 _ rfl) (k p e s m args below meth c H locs cells slots lz X Y)
theorem zg_ll10 {z : Int} (hd : decode μ.2.1 pc = .ok (.lload 10, 2))
    (k : zg_G Γ Ξ μ R Ω bc bs (pc + 2) (o0 :: o1 :: o2 :: o3 :: o4 :: o5 :: o6 :: o7 :: o8 :: o9 :: some (zg_l z) :: rs) (zg_l z :: st) K N P V) : zg_G Γ Ξ μ R Ω bc bs pc (o0 :: o1 :: o2 :: o3 :: o4 :: o5 :: o6 :: o7 :: o8 :: o9 :: some (zg_l z) :: rs) st K N P V := by
  intro p e s m args below meth c H locs cells slots lz X Y
  exact lv_lload X.1 X.2.1 hd (Y.1.2.2 10 _ rfl) (k p e s m args below meth c H locs cells slots lz X Y)
theorem zg_al10 {a : Nat} (hd : decode μ.2.1 pc = .ok (.aload 10, 2))
    (k : zg_G Γ Ξ μ R Ω bc bs (pc + 2) (o0 :: o1 :: o2 :: o3 :: o4 :: o5 :: o6 :: o7 :: o8 :: o9 :: some (zg_r Γ a) :: rs) (zg_r Γ a :: st) K N P V) : zg_G Γ Ξ μ R Ω bc bs pc (o0 :: o1 :: o2 :: o3 :: o4 :: o5 :: o6 :: o7 :: o8 :: o9 :: some (zg_r Γ a) :: rs) st K N P V := by
  intro p e s m args below meth c H locs cells slots lz X Y
  exact lv_aload X.1 X.2.1 hd (Y.1.2.2 10 _ rfl) (k p e s m args below meth c H locs cells slots lz X Y)
theorem zg_is10 {z : Int} (hd : decode μ.2.1 pc = .ok (.istore 10, 2)) (hc : ∀ w, o9 = some w → w.category = 1) (hn : 10 < μ.2.2.1)
    (k : zg_G Γ Ξ μ R Ω bc bs (pc + 2) (o0 :: o1 :: o2 :: o3 :: o4 :: o5 :: o6 :: o7 :: o8 :: o9 :: some (zg_i z) :: rs) st K N P V) : zg_G Γ Ξ μ R Ω bc bs pc (o0 :: o1 :: o2 :: o3 :: o4 :: o5 :: o6 :: o7 :: o8 :: o9 :: o10 :: rs) (zg_i z :: st) K N P V := by
  intro p e s m args below meth c H locs cells slots lz X Y
  exact lv_istore X.1 X.2.1 hd (zg_lh_has Y.1) hn rfl (fun lz' h => k p e s m args below meth c H locs cells slots lz' X ⟨zg_lh_store (fun w _ h => hc w (Option.some.inj h)) h, Y.2⟩)
theorem zg_as10 {a : Nat} (hd : decode μ.2.1 pc = .ok (.astore 10, 2)) (hc : ∀ w, o9 = some w → w.category = 1) (hn : 10 < μ.2.2.1)
    (k : zg_G Γ Ξ μ R Ω bc bs (pc + 2) (o0 :: o1 :: o2 :: o3 :: o4 :: o5 :: o6 :: o7 :: o8 :: o9 :: some (zg_r Γ a) :: rs) st K N P V) : zg_G Γ Ξ μ R Ω bc bs pc (o0 :: o1 :: o2 :: o3 :: o4 :: o5 :: o6 :: o7 :: o8 :: o9 :: o10 :: rs) (zg_r Γ a :: st) K N P V := by
  intro p e s m args below meth c H locs cells slots lz X Y
  exact lv_astore X.1 X.2.1 hd (zg_lh_has Y.1) hn rfl (fun lz' h => k p e s m args below meth c H locs cells slots lz' X ⟨zg_lh_store (fun w _ h => hc w (Option.some.inj h)) h, Y.2⟩)
theorem zg_ls10 {z : Int} (hd : decode μ.2.1 pc = .ok (.lstore 10, 2)) (hc : ∀ w, o9 = some w → w.category = 1) (hn : 10 + 1 < μ.2.2.1)
    (k : zg_G Γ Ξ μ R Ω bc bs (pc + 2) (o0 :: o1 :: o2 :: o3 :: o4 :: o5 :: o6 :: o7 :: o8 :: o9 :: some (zg_l z) :: none :: rs) st K N P V) : zg_G Γ Ξ μ R Ω bc bs pc (o0 :: o1 :: o2 :: o3 :: o4 :: o5 :: o6 :: o7 :: o8 :: o9 :: o10 :: o11 :: rs) (zg_l z :: st) K N P V := by
  intro p e s m args below meth c H locs cells slots lz X Y
  exact lv_lstore X.1 X.2.1 hd (zg_lh_has Y.1) hn rfl (fun lz' h => k p e s m args below meth c H locs cells slots lz' X ⟨zg_lh_store2 (fun w _ h => hc w (Option.some.inj h)) h, Y.2⟩)
theorem zg_inc10 {z n : Int} (hd : decode μ.2.1 pc = .ok (.iinc 10 n, 3)) (hc : ∀ w, o9 = some w → w.category = 1) (hn : 10 < μ.2.2.1)
    (k : zg_G Γ Ξ μ R Ω bc bs (pc + 3) (o0 :: o1 :: o2 :: o3 :: o4 :: o5 :: o6 :: o7 :: o8 :: o9 :: some (zg_i (z + n)) :: rs) st K N P V) : zg_G Γ Ξ μ R Ω bc bs pc (o0 :: o1 :: o2 :: o3 :: o4 :: o5 :: o6 :: o7 :: o8 :: o9 :: some (zg_i z) :: rs) st K N P V := by
  intro p e s m args below meth c H locs cells slots lz X Y
  obtain ⟨kx, hkx⟩ := List.getElem?_of_mem (zg_pr_mem.mpr (show (o0 :: o1 :: o2 :: o3 :: o4 :: o5 :: o6 :: o7 :: o8 :: o9 :: some (zg_i z) :: rs)[10]? = some (some (zg_i z)) from rfl))
  exact lv_iinc (v := Int32.ofInt (z + n)) X.1 X.2.1 hd (zg_lh_has Y.1) hkx (Int32.ofInt_add z n).symm hn rfl (fun lz' h => k p e s m args below meth c H locs cells slots lz' X ⟨zg_lh_store (fun w _ h => hc w (Option.some.inj h)) h, Y.2⟩)
theorem zg_il11 {z : Int} (hd : decode μ.2.1 pc = .ok (.iload 11, 2))
    (k : zg_G Γ Ξ μ R Ω bc bs (pc + 2) (o0 :: o1 :: o2 :: o3 :: o4 :: o5 :: o6 :: o7 :: o8 :: o9 :: o10 :: some (zg_i z) :: rs) (zg_i z :: st) K N P V) : zg_G Γ Ξ μ R Ω bc bs pc (o0 :: o1 :: o2 :: o3 :: o4 :: o5 :: o6 :: o7 :: o8 :: o9 :: o10 :: some (zg_i z) :: rs) st K N P V := by
  intro p e s m args below meth c H locs cells slots lz X Y
  exact lv_iload X.1 X.2.1 hd (Y.1.2.2 11 _ rfl) (k p e s m args below meth c H locs cells slots lz X Y)
theorem zg_ll11 {z : Int} (hd : decode μ.2.1 pc = .ok (.lload 11, 2))
    (k : zg_G Γ Ξ μ R Ω bc bs (pc + 2) (o0 :: o1 :: o2 :: o3 :: o4 :: o5 :: o6 :: o7 :: o8 :: o9 :: o10 :: some (zg_l z) :: rs) (zg_l z :: st) K N P V) : zg_G Γ Ξ μ R Ω bc bs pc (o0 :: o1 :: o2 :: o3 :: o4 :: o5 :: o6 :: o7 :: o8 :: o9 :: o10 :: some (zg_l z) :: rs) st K N P V := by
  intro p e s m args below meth c H locs cells slots lz X Y
  exact lv_lload X.1 X.2.1 hd (Y.1.2.2 11 _ rfl) (k p e s m args below meth c H locs cells slots lz X Y)
theorem zg_al11 {a : Nat} (hd : decode μ.2.1 pc = .ok (.aload 11, 2))
    (k : zg_G Γ Ξ μ R Ω bc bs (pc + 2) (o0 :: o1 :: o2 :: o3 :: o4 :: o5 :: o6 :: o7 :: o8 :: o9 :: o10 :: some (zg_r Γ a) :: rs) (zg_r Γ a :: st) K N P V) : zg_G Γ Ξ μ R Ω bc bs pc (o0 :: o1 :: o2 :: o3 :: o4 :: o5 :: o6 :: o7 :: o8 :: o9 :: o10 :: some (zg_r Γ a) :: rs) st K N P V := by
  intro p e s m args below meth c H locs cells slots lz X Y
  exact lv_aload X.1 X.2.1 hd (Y.1.2.2 11 _ rfl) (k p e s m args below meth c H locs cells slots lz X Y)
theorem zg_is11 {z : Int} (hd : decode μ.2.1 pc = .ok (.istore 11, 2)) (hc : ∀ w, o10 = some w → w.category = 1) (hn : 11 < μ.2.2.1)
    (k : zg_G Γ Ξ μ R Ω bc bs (pc + 2) (o0 :: o1 :: o2 :: o3 :: o4 :: o5 :: o6 :: o7 :: o8 :: o9 :: o10 :: some (zg_i z) :: rs) st K N P V) : zg_G Γ Ξ μ R Ω bc bs pc (o0 :: o1 :: o2 :: o3 :: o4 :: o5 :: o6 :: o7 :: o8 :: o9 :: o10 :: o11 :: rs) (zg_i z :: st) K N P V := by
  intro p e s m args below meth c H locs cells slots lz X Y
  exact lv_istore X.1 X.2.1 hd (zg_lh_has Y.1) hn rfl (fun lz' h => k p e s m args below meth c H locs cells slots lz' X ⟨zg_lh_store (fun w _ h => hc w (Option.some.inj h)) h, Y.2⟩)
theorem zg_as11 {a : Nat} (hd : decode μ.2.1 pc = .ok (.astore 11, 2)) (hc : ∀ w, o10 = some w → w.category = 1) (hn : 11 < μ.2.2.1)
    (k : zg_G Γ Ξ μ R Ω bc bs (pc + 2) (o0 :: o1 :: o2 :: o3 :: o4 :: o5 :: o6 :: o7 :: o8 :: o9 :: o10 :: some (zg_r Γ a) :: rs) st K N P V) : zg_G Γ Ξ μ R Ω bc bs pc (o0 :: o1 :: o2 :: o3 :: o4 :: o5 :: o6 :: o7 :: o8 :: o9 :: o10 :: o11 :: rs) (zg_r Γ a :: st) K N P V := by
  intro p e s m args below meth c H locs cells slots lz X Y
  exact lv_astore X.1 X.2.1 hd (zg_lh_has Y.1) hn rfl (fun lz' h => k p e s m args below meth c H locs cells slots lz' X ⟨zg_lh_store (fun w _ h => hc w (Option.some.inj h)) h, Y.2⟩)
theorem zg_ls11 {z : Int} (hd : decode μ.2.1 pc = .ok (.lstore 11, 2)) (hc : ∀ w, o10 = some w → w.category = 1) (hn : 11 + 1 < μ.2.2.1)
    (k : zg_G Γ Ξ μ R Ω bc bs (pc + 2) (o0 :: o1 :: o2 :: o3 :: o4 :: o5 :: o6 :: o7 :: o8 :: o9 :: o10 :: some (zg_l z) :: none :: rs) st K N P V) : zg_G Γ Ξ μ R Ω bc bs pc (o0 :: o1 :: o2 :: o3 :: o4 :: o5 :: o6 :: o7 :: o8 :: o9 :: o10 :: o11 :: o12 :: rs) (zg_l z :: st) K N P V := by
  intro p e s m args below meth c H locs cells slots lz X Y
  exact lv_lstore X.1 X.2.1 hd (zg_lh_has Y.1) hn rfl (fun lz' h => k p e s m args below meth c H locs cells slots lz' X ⟨zg_lh_store2 (fun w _ h => hc w (Option.some.inj h)) h, Y.2⟩)
theorem zg_inc11 {z n : Int} (hd : decode μ.2.1 pc = .ok (.iinc 11 n, 3)) (hc : ∀ w, o10 = some w → w.category = 1) (hn : 11 < μ.2.2.1)
    (k : zg_G Γ Ξ μ R Ω bc bs (pc + 3) (o0 :: o1 :: o2 :: o3 :: o4 :: o5 :: o6 :: o7 :: o8 :: o9 :: o10 :: some (zg_i (z + n)) :: rs) st K N P V) : zg_G Γ Ξ μ R Ω bc bs pc (o0 :: o1 :: o2 :: o3 :: o4 :: o5 :: o6 :: o7 :: o8 :: o9 :: o10 :: some (zg_i z) :: rs) st K N P V := by
  intro p e s m args below meth c H locs cells slots lz X Y
  obtain ⟨kx, hkx⟩ := List.getElem?_of_mem (zg_pr_mem.mpr (show (o0 :: o1 :: o2 :: o3 :: o4 :: o5 :: o6 :: o7 :: o8 :: o9 :: o10 :: some (zg_i z) :: rs)[11]? = some (some (zg_i z)) from rfl))
  exact lv_iinc (v := Int32.ofInt (z + n)) X.1 X.2.1 hd (zg_lh_has Y.1) hkx (Int32.ofInt_add z n).symm hn rfl (fun lz' h => k p e s m args below meth c H locs cells slots lz' X ⟨zg_lh_store (fun w _ h => hc w (Option.some.inj h)) h, Y.2⟩)
theorem zg_il12 {z : Int} (hd : decode μ.2.1 pc = .ok (.iload 12, 2))
    (k : zg_G Γ Ξ μ R Ω bc bs (pc + 2) (o0 :: o1 :: o2 :: o3 :: o4 :: o5 :: o6 :: o7 :: o8 :: o9 :: o10 :: o11 :: some (zg_i z) :: rs) (zg_i z :: st) K N P V) : zg_G Γ Ξ μ R Ω bc bs pc (o0 :: o1 :: o2 :: o3 :: o4 :: o5 :: o6 :: o7 :: o8 :: o9 :: o10 :: o11 :: some (zg_i z) :: rs) st K N P V := by
  intro p e s m args below meth c H locs cells slots lz X Y
  exact lv_iload X.1 X.2.1 hd (Y.1.2.2 12 _ rfl) (k p e s m args below meth c H locs cells slots lz X Y)
theorem zg_ll12 {z : Int} (hd : decode μ.2.1 pc = .ok (.lload 12, 2))
    (k : zg_G Γ Ξ μ R Ω bc bs (pc + 2) (o0 :: o1 :: o2 :: o3 :: o4 :: o5 :: o6 :: o7 :: o8 :: o9 :: o10 :: o11 :: some (zg_l z) :: rs) (zg_l z :: st) K N P V) : zg_G Γ Ξ μ R Ω bc bs pc (o0 :: o1 :: o2 :: o3 :: o4 :: o5 :: o6 :: o7 :: o8 :: o9 :: o10 :: o11 :: some (zg_l z) :: rs) st K N P V := by
  intro p e s m args below meth c H locs cells slots lz X Y
  exact lv_lload X.1 X.2.1 hd (Y.1.2.2 12 _ rfl) (k p e s m args below meth c H locs cells slots lz X Y)
theorem zg_al12 {a : Nat} (hd : decode μ.2.1 pc = .ok (.aload 12, 2))
    (k : zg_G Γ Ξ μ R Ω bc bs (pc + 2) (o0 :: o1 :: o2 :: o3 :: o4 :: o5 :: o6 :: o7 :: o8 :: o9 :: o10 :: o11 :: some (zg_r Γ a) :: rs) (zg_r Γ a :: st) K N P V) : zg_G Γ Ξ μ R Ω bc bs pc (o0 :: o1 :: o2 :: o3 :: o4 :: o5 :: o6 :: o7 :: o8 :: o9 :: o10 :: o11 :: some (zg_r Γ a) :: rs) st K N P V := by
  intro p e s m args below meth c H locs cells slots lz X Y
  exact lv_aload X.1 X.2.1 hd (Y.1.2.2 12 _ rfl) (k p e s m args below meth c H locs cells slots lz X Y)
theorem zg_is12 {z : Int} (hd : decode μ.2.1 pc = .ok (.istore 12, 2)) (hc : ∀ w, o11 = some w → w.category = 1) (hn : 12 < μ.2.2.1)
    (k : zg_G Γ Ξ μ R Ω bc bs (pc + 2) (o0 :: o1 :: o2 :: o3 :: o4 :: o5 :: o6 :: o7 :: o8 :: o9 :: o10 :: o11 :: some (zg_i z) :: rs) st K N P V) : zg_G Γ Ξ μ R Ω bc bs pc (o0 :: o1 :: o2 :: o3 :: o4 :: o5 :: o6 :: o7 :: o8 :: o9 :: o10 :: o11 :: o12 :: rs) (zg_i z :: st) K N P V := by
  intro p e s m args below meth c H locs cells slots lz X Y
  exact lv_istore X.1 X.2.1 hd (zg_lh_has Y.1) hn rfl (fun lz' h => k p e s m args below meth c H locs cells slots lz' X ⟨zg_lh_store (fun w _ h => hc w (Option.some.inj h)) h, Y.2⟩)
theorem zg_as12 {a : Nat} (hd : decode μ.2.1 pc = .ok (.astore 12, 2)) (hc : ∀ w, o11 = some w → w.category = 1) (hn : 12 < μ.2.2.1)
    (k : zg_G Γ Ξ μ R Ω bc bs (pc + 2) (o0 :: o1 :: o2 :: o3 :: o4 :: o5 :: o6 :: o7 :: o8 :: o9 :: o10 :: o11 :: some (zg_r Γ a) :: rs) st K N P V) : zg_G Γ Ξ μ R Ω bc bs pc (o0 :: o1 :: o2 :: o3 :: o4 :: o5 :: o6 :: o7 :: o8 :: o9 :: o10 :: o11 :: o12 :: rs) (zg_r Γ a :: st) K N P V := by
  intro p e s m args below meth c H locs cells slots lz X Y
  exact lv_astore X.1 X.2.1 hd (zg_lh_has Y.1) hn rfl (fun lz' h => k p e s m args below meth c H locs cells slots lz' X ⟨zg_lh_store (fun w _ h => hc w (Option.some.inj h)) h, Y.2⟩)
theorem zg_ls12 {z : Int} (hd : decode μ.2.1 pc = .ok (.lstore 12, 2)) (hc : ∀ w, o11 = some w → w.category = 1) (hn : 12 + 1 < μ.2.2.1)
    (k : zg_G Γ Ξ μ R Ω bc bs (pc + 2) (o0 :: o1 :: o2 :: o3 :: o4 :: o5 :: o6 :: o7 :: o8 :: o9 :: o10 :: o11 :: some (zg_l z) :: none :: rs) st K N P V) : zg_G Γ Ξ μ R Ω bc bs pc (o0 :: o1 :: o2 :: o3 :: o4 :: o5 :: o6 :: o7 :: o8 :: o9 :: o10 :: o11 :: o12 :: o13 :: rs) (zg_l z :: st) K N P V := by
  intro p e s m args below meth c H locs cells slots lz X Y
  exact lv_lstore X.1 X.2.1 hd (zg_lh_has Y.1) hn rfl (fun lz' h => k p e s m args below meth c H locs cells slots lz' X ⟨zg_lh_store2 (fun w _ h => hc w (Option.some.inj h)) h, Y.2⟩)
theorem zg_inc12 {z n : Int} (hd : decode μ.2.1 pc = .ok (.iinc 12 n, 3)) (hc : ∀ w, o11 = some w → w.category = 1) (hn : 12 < μ.2.2.1)
    (k : zg_G Γ Ξ μ R Ω bc bs (pc + 3) (o0 :: o1 :: o2 :: o3 :: o4 :: o5 :: o6 :: o7 :: o8 :: o9 :: o10 :: o11 :: some (zg_i (z + n)) :: rs) st K N P V) : zg_G Γ Ξ μ R Ω bc bs pc (o0 :: o1 :: o2 :: o3 :: o4 :: o5 :: o6 :: o7 :: o8 :: o9 :: o10 :: o11 :: some (zg_i z) :: rs) st K N P V := by
  intro p e s m args below meth c H locs cells slots lz X Y
  obtain ⟨kx, hkx⟩ := List.getElem?_of_mem (zg_pr_mem.mpr (show (o0 :: o1 :: o2 :: o3 :: o4 :: o5 :: o6 :: o7 :: o8 :: o9 :: o10 :: o11 :: some (zg_i z) :: rs)[12]? = some (some (zg_i z)) from rfl))
  exact lv_iinc (v := Int32.ofInt (z + n)) X.1 X.2.1 hd (zg_lh_has Y.1) hkx (Int32.ofInt_add z n).symm hn rfl (fun lz' h => k p e s m args below meth c H locs cells slots lz' X ⟨zg_lh_store (fun w _ h => hc w (Option.some.inj h)) h, Y.2⟩)
theorem zg_il13 {z : Int} (hd : decode μ.2.1 pc = .ok (.iload 13, 2))
    (k : zg_G Γ Ξ μ R Ω bc bs (pc + 2) (o0 :: o1 :: o2 :: o3 :: o4 :: o5 :: o6 :: o7 :: o8 :: o9 :: o10 :: o11 :: o12 :: some (zg_i z) :: rs) (zg_i z :: st) K N P V) : zg_G Γ Ξ μ R Ω bc bs pc (o0 :: o1 :: o2 :: o3 :: o4 :: o5 :: o6 :: o7 :: o8 :: o9 :: o10 :: o11 :: o12 :: some (zg_i z) :: rs) st K N P V := by
  intro p e s m args below meth c H locs cells slots lz X Y
  exact lv_iload X.1 X.2.1 hd (Y.1.2.2 13 _ rfl) (k p e s m args below meth c H locs cells slots lz X Y)
theorem zg_ll13 {z : Int} (hd : decode μ.2.1 pc = .ok (.lload 13, 2))
    (k : zg_G Γ Ξ μ R Ω bc bs (pc + 2) (o0 :: o1 :: o2 :: o3 :: o4 :: o5 :: o6 :: o7 :: o8 :: o9 :: o10 :: o11 :: o12 :: some (zg_l z) :: rs) (zg_l z :: st) K N P V) : zg_G Γ Ξ μ R Ω bc bs pc (o0 :: o1 :: o2 :: o3 :: o4 :: o5 :: o6 :: o7 :: o8 :: o9 :: o10 :: o11 :: o12 :: some (zg_l z) :: rs) st K N P V := by
  intro p e s m args below meth c H locs cells slots lz X Y
  exact lv_lload X.1 X.2.1 hd (Y.1.2.2 13 _ rfl) (k p e s m args below meth c H locs cells slots lz X Y)
theorem zg_al13 {a : Nat} (hd : decode μ.2.1 pc = .ok (.aload 13, 2))
    (k : zg_G Γ Ξ μ R Ω bc bs (pc + 2) (o0 :: o1 :: o2 :: o3 :: o4 :: o5 :: o6 :: o7 :: o8 :: o9 :: o10 :: o11 :: o12 :: some (zg_r Γ a) :: rs) (zg_r Γ a :: st) K N P V) : zg_G Γ Ξ μ R Ω bc bs pc (o0 :: o1 :: o2 :: o3 :: o4 :: o5 :: o6 :: o7 :: o8 :: o9 :: o10 :: o11 :: o12 :: some (zg_r Γ a) :: rs) st K N P V := by
  intro p e s m args below meth c H locs cells slots lz X Y
  exact lv_aload X.1 X.2.1 hd (Y.1.2.2 13 _ rfl) (k p e s m args below meth c H locs cells slots lz X Y)
theorem zg_is13 {z : Int} (hd : decode μ.2.1 pc = .ok (.istore 13, 2)) (hc : ∀ w, o12 = some w → w.category = 1) (hn : 13 < μ.2.2.1)
    (k : zg_G Γ Ξ μ R Ω bc bs (pc + 2) (o0 :: o1 :: o2 :: o3 :: o4 :: o5 :: o6 :: o7 :: o8 :: o9 :: o10 :: o11 :: o12 :: some (zg_i z) :: rs) st K N P V) : zg_G Γ Ξ μ R Ω bc bs pc (o0 :: o1 :: o2 :: o3 :: o4 :: o5 :: o6 :: o7 :: o8 :: o9 :: o10 :: o11 :: o12 :: o13 :: rs) (zg_i z :: st) K N P V := by
  intro p e s m args below meth c H locs cells slots lz X Y
  exact lv_istore X.1 X.2.1 hd (zg_lh_has Y.1) hn rfl (fun lz' h => k p e s m args below meth c H locs cells slots lz' X ⟨zg_lh_store (fun w _ h => hc w (Option.some.inj h)) h, Y.2⟩)
theorem zg_as13 {a : Nat} (hd : decode μ.2.1 pc = .ok (.astore 13, 2)) (hc : ∀ w, o12 = some w → w.category = 1) (hn : 13 < μ.2.2.1)
    (k : zg_G Γ Ξ μ R Ω bc bs (pc + 2) (o0 :: o1 :: o2 :: o3 :: o4 :: o5 :: o6 :: o7 :: o8 :: o9 :: o10 :: o11 :: o12 :: some (zg_r Γ a) :: rs) st K N P V) : zg_G Γ Ξ μ R Ω bc bs pc (o0 :: o1 :: o2 :: o3 :: o4 :: o5 :: o6 :: o7 :: o8 :: o9 :: o10 :: o11 :: o12 :: o13 :: rs) (zg_r Γ a :: st) K N P V := by
  intro p e s m args below meth c H locs cells slots lz X Y
  exact lv_astore X.1 X.2.1 hd (zg_lh_has Y.1) hn rfl (fun lz' h => k p e s m args below meth c H locs cells slots lz' X ⟨zg_lh_store (fun w _ h => hc w (Option.some.inj h)) h, Y.2⟩)
theorem zg_ls13 {z : Int} (hd : decode μ.2.1 pc = .ok (.lstore 13, 2)) (hc : ∀ w, o12 = some w → w.category = 1) (hn : 13 + 1 < μ.2.2.1)
    (k : zg_G Γ Ξ μ R Ω bc bs (pc + 2) (o0 :: o1 :: o2 :: o3 :: o4 :: o5 :: o6 :: o7 :: o8 :: o9 :: o10 :: o11 :: o12 :: some (zg_l z) :: none :: rs) st K N P V) : zg_G Γ Ξ μ R Ω bc bs pc (o0 :: o1 :: o2 :: o3 :: o4 :: o5 :: o6 :: o7 :: o8 :: o9 :: o10 :: o11 :: o12 :: o13 :: o14 :: rs) (zg_l z :: st) K N P V := by
  intro p e s m args below meth c H locs cells slots lz X Y
  exact lv_lstore X.1 X.2.1 hd (zg_lh_has Y.1) hn rfl (fun lz' h => k p e s m args below meth c H locs cells slots lz' X ⟨zg_lh_store2 (fun w _ h => hc w (Option.some.inj h)) h, Y.2⟩)
theorem zg_inc13 {z n : Int} (hd : decode μ.2.1 pc = .ok (.iinc 13 n, 3)) (hc : ∀ w, o12 = some w → w.category = 1) (hn : 13 < μ.2.2.1)
    (k : zg_G Γ Ξ μ R Ω bc bs (pc + 3) (o0 :: o1 :: o2 :: o3 :: o4 :: o5 :: o6 :: o7 :: o8 :: o9 :: o10 :: o11 :: o12 :: some (zg_i (z + n)) :: rs) st K N P V) : zg_G Γ Ξ μ R Ω bc bs pc (o0 :: o1 :: o2 :: o3 :: o4 :: o5 :: o6 :: o7 :: o8 :: o9 :: o10 :: o11 :: o12 :: some (zg_i z) :: rs) st K N P V := by
  intro p e s m args below meth c H locs cells slots lz X Y
  obtain ⟨kx, hkx⟩ := List.getElem?_of_mem (zg_pr_mem.mpr (show (o0 :: o1 :: o2 :: o3 :: o4 :: o5 :: o6 :: o7 :: o8 :: o9 :: o10 :: o11 :: o12 :: some (zg_i z) :: rs)[13]? = some (some (zg_i z)) from rfl))
  exact lv_iinc (v := Int32.ofInt (z + n)) X.1 X.2.1 hd (zg_lh_has Y.1) hkx (Int32.ofInt_add z n).symm hn rfl (fun lz' h => k p e s m args below meth c H locs cells slots lz' X ⟨zg_lh_store (fun w _ h => hc w (Option.some.inj h)) h, Y.2⟩)
theorem zg_il14 {z : Int} (hd : decode μ.2.1 pc = .ok (.iload 14, 2))
    (k : zg_G Γ Ξ μ R Ω bc bs (pc + 2) (o0 :: o1 :: o2 :: o3 :: o4 :: o5 :: o6 :: o7 :: o8 :: o9 :: o10 :: o11 :: o12 :: o13 :: some (zg_i z) :: rs) (zg_i z :: st) K N P V) : zg_G Γ Ξ μ R Ω bc bs pc (o0 :: o1 :: o2 :: o3 :: o4 :: o5 :: o6 :: o7 :: o8 :: o9 :: o10 :: o11 :: o12 :: o13 :: some (zg_i z) :: rs) st K N P V := by
  intro p e s m args below meth c H locs cells slots lz X Y
  exact lv_iload X.1 X.2.1 hd (Y.1.2.2 14 _ rfl) (k p e s m args below meth c H locs cells slots lz X Y)
theorem zg_ll14 {z : Int} (hd : decode μ.2.1 pc = .ok (.lload 14, 2))
    (k : zg_G Γ Ξ μ R Ω bc bs (pc + 2) (o0 :: o1 :: o2 :: o3 :: o4 :: o5 :: o6 :: o7 :: o8 :: o9 :: o10 :: o11 :: o12 :: o13 :: some (zg_l z) :: rs) (zg_l z :: st) K N P V) : zg_G Γ Ξ μ R Ω bc bs pc (o0 :: o1 :: o2 :: o3 :: o4 :: o5 :: o6 :: o7 :: o8 :: o9 :: o10 :: o11 :: o12 :: o13 :: some (zg_l z) :: rs) st K N P V := by
  intro p e s m args below meth c H locs cells slots lz X Y
  exact lv_lload X.1 X.2.1 hd (Y.1.2.2 14 _ rfl) (k p e s m args below meth c H locs cells slots lz X Y)
theorem zg_al14 {a : Nat} (hd : decode μ.2.1 pc = .ok (.aload 14, 2))
    (k : zg_G Γ Ξ μ R Ω bc bs (pc + 2) (o0 :: o1 :: o2 :: o3 :: o4 :: o5 :: o6 :: o7 :: o8 :: o9 :: o10 :: o11 :: o12 :: o13 :: some (zg_r Γ a) :: rs) (zg_r Γ a :: st) K N P V) : zg_G Γ Ξ μ R Ω bc bs pc (o0 :: o1 :: o2 :: o3 :: o4 :: o5 :: o6 :: o7 :: o8 :: o9 :: o10 :: o11 :: o12 :: o13 :: some (zg_r Γ a) :: rs) st K N P V := by
  intro p e s m args below meth c H locs cells slots lz X Y
  exact lv_aload X.1 X.2.1 hd (Y.1.2.2 14 _ rfl) (k p e s m args below meth c H locs cells slots lz X Y)
theorem zg_is14 {z : Int} (hd : decode μ.2.1 pc = .ok (.istore 14, 2)) (hc : ∀ w, o13 = some w → w.category = 1) (hn : 14 < μ.2.2.1)
    (k : zg_G Γ Ξ μ R Ω bc bs (pc + 2) (o0 :: o1 :: o2 :: o3 :: o4 :: o5 :: o6 :: o7 :: o8 :: o9 :: o10 :: o11 :: o12 :: o13 :: some (zg_i z) :: rs) st K N P V) : zg_G Γ Ξ μ R Ω bc bs pc (o0 :: o1 :: o2 :: o3 :: o4 :: o5 :: o6 :: o7 :: o8 :: o9 :: o10 :: o11 :: o12 :: o13 :: o14 :: rs) (zg_i z :: st) K N P V := by
  intro p e s m args below meth c H locs cells slots lz X Y
  exact lv_istore X.1 X.2.1 hd (zg_lh_has Y.1) hn rfl (fun lz' h => k p e s m args below meth c H locs cells slots lz' X ⟨zg_lh_store (fun w _ h => hc w (Option.some.inj h)) h, Y.2⟩)
theorem zg_as14 {a : Nat} (hd : decode μ.2.1 pc = .ok (.astore 14, 2)) (hc : ∀ w, o13 = some w → w.category = 1) (hn : 14 < μ.2.2.1)
    (k : zg_G Γ Ξ μ R Ω bc bs (pc + 2) (o0 :: o1 :: o2 :: o3 :: o4 :: o5 :: o6 :: o7 :: o8 :: o9 :: o10 :: o11 :: o12 :: o13 :: some (zg_r Γ a) :: rs) st K N P V) : zg_G Γ Ξ μ R Ω bc bs pc (o0 :: o1 :: o2 :: o3 :: o4 :: o5 :: o6 :: o7 :: o8 :: o9 :: o10 :: o11 :: o12 :: o13 :: o14 :: rs) (zg_r Γ a :: st) K N P V := by
  intro p e s m args below meth c H locs cells slots lz X Y
  exact lv_astore X.1 X.2.1 hd (zg_lh_has Y.1) hn rfl (fun lz' h => k p e s m args below meth c H locs cells slots lz' X ⟨zg_lh_store (fun w _ h => hc w (Option.some.inj h)) h, Y.2⟩)
theorem zg_ls14 {z : Int} (hd : decode μ.2.1 pc = .ok (.lstore 14, 2)) (hc : ∀ w, o13 = some w → w.category = 1) (hn : 14 + 1 < μ.2.2.1)
    (k : zg_G Γ Ξ μ R Ω bc bs (pc + 2) (o0 :: o1 :: o2 :: o3 :: o4 :: o5 :: o6 :: o7 :: o8 :: o9 :: o10 :: o11 :: o12 :: o13 :: some (zg_l z) :: none :: rs) st K N P V) : zg_G Γ Ξ μ R Ω bc bs pc (o0 :: o1 :: o2 :: o3 :: o4 :: o5 :: o6 :: o7 :: o8 :: o9 :: o10 :: o11 :: o12 :: o13 :: o14 :: o15 :: rs) (zg_l z :: st) K N P V := by
  intro p e s m args below meth c H locs cells slots lz X Y
  exact lv_lstore X.1 X.2.1 hd (zg_lh_has Y.1) hn rfl (fun lz' h => k p e s m args below meth c H locs cells slots lz' X ⟨zg_lh_store2 (fun w _ h => hc w (Option.some.inj h)) h, Y.2⟩)
theorem zg_inc14 {z n : Int} (hd : decode μ.2.1 pc = .ok (.iinc 14 n, 3)) (hc : ∀ w, o13 = some w → w.category = 1) (hn : 14 < μ.2.2.1)
    (k : zg_G Γ Ξ μ R Ω bc bs (pc + 3) (o0 :: o1 :: o2 :: o3 :: o4 :: o5 :: o6 :: o7 :: o8 :: o9 :: o10 :: o11 :: o12 :: o13 :: some (zg_i (z + n)) :: rs) st K N P V) : zg_G Γ Ξ μ R Ω bc bs pc (o0 :: o1 :: o2 :: o3 :: o4 :: o5 :: o6 :: o7 :: o8 :: o9 :: o10 :: o11 :: o12 :: o13 :: some (zg_i z) :: rs) st K N P V := by
  intro p e s m args below meth c H locs cells slots lz X Y
  obtain ⟨kx, hkx⟩ := List.getElem?_of_mem (zg_pr_mem.mpr (show (o0 :: o1 :: o2 :: o3 :: o4 :: o5 :: o6 :: o7 :: o8 :: o9 :: o10 :: o11 :: o12 :: o13 :: some (zg_i z) :: rs)[14]? = some (some (zg_i z)) from rfl))
  exact lv_iinc (v := Int32.ofInt (z + n)) X.1 X.2.1 hd (zg_lh_has Y.1) hkx (Int32.ofInt_add z n).symm hn rfl (fun lz' h => k p e s m args below meth c H locs cells slots lz' X ⟨zg_lh_store (fun w _ h => hc w (Option.some.inj h)) h, Y.2⟩)
theorem zg_il15 {z : Int} (hd : decode μ.2.1 pc = .ok (.iload 15, 2))
    (k : zg_G Γ Ξ μ R Ω bc bs (pc + 2) (o0 :: o1 :: o2 :: o3 :: o4 :: o5 :: o6 :: o7 :: o8 :: o9 :: o10 :: o11 :: o12 :: o13 :: o14 :: some (zg_i z) :: rs) (zg_i z :: st) K N P V) : zg_G Γ Ξ μ R Ω bc bs pc (o0 :: o1 :: o2 :: o3 :: o4 :: o5 :: o6 :: o7 :: o8 :: o9 :: o10 :: o11 :: o12 :: o13 :: o14 :: some (zg_i z) :: rs) st K N P V := by
  intro p e s m args below meth c H locs cells slots lz X Y
  exact lv_iload X.1 X.2.1 hd (Y.1.2.2 15 _ rfl) (k p e s m args below meth c H locs cells slots lz X Y)
theorem zg_ll15 {z : Int} (hd : decode μ.2.1 pc = .ok (.lload 15, 2))
    (k : zg_G Γ Ξ μ R Ω bc bs (pc + 2) (o0 :: o1 :: o2 :: o3 :: o4 :: o5 :: o6 :: o7 :: o8 :: o9 :: o10 :: o11 :: o12 :: o13 :: o14 :: some (zg_l z) :: rs) (zg_l z :: st) K N P V) : zg_G Γ Ξ μ R Ω bc bs pc (o0 :: o1 :: o2 :: o3 :: o4 :: o5 :: o6 :: o7 :: o8 :: o9 :: o10 :: o11 :: o12 :: o13 :: o14 :: some (zg_l z) :: rs) st K N P V := by
  intro p e s m args below meth c H locs cells slots lz X Y
  exact lv_lload X.1 X.2.1 hd (Y.1.2.2 15 _ rfl) (k p e s m args below meth c H locs cells slots lz X Y)
theorem zg_al15 {a : Nat} (hd : decode μ.2.1 pc = .ok (.aload 15, 2))
    (k : zg_G Γ Ξ μ R Ω bc bs (pc + 2) (o0 :: o1 :: o2 :: o3 :: o4 :: o5 :: o6 :: o7 :: o8 :: o9 :: o10 :: o11 :: o12 :: o13 :: o14 :: some (zg_r Γ a) :: rs) (zg_r Γ a :: st) K N P V) : zg_G Γ Ξ μ R Ω bc bs pc (o0 :: o1 :: o2 :: o3 :: o4 :: o5 :: o6 :: o7 :: o8 :: o9 :: o10 :: o11 :: o12 :: o13 :: o14 :: some (zg_r Γ a) :: rs) st K N P V := by
  intro p e s m args below meth c H locs cells slots lz X Y
  exact lv_aload X.1 X.2.1 hd (Y.1.2.2 15 _ rfl) (k p e s m args below meth c H locs cells slots lz X Y)
theorem zg_is15 {z : Int} (hd : decode μ.2.1 pc = .ok (.istore 15, 2)) (hc : ∀ w, o14 = some w → w.category = 1) (hn : 15 < μ.2.2.1)
    (k : zg_G Γ Ξ μ R Ω bc bs (pc + 2) (o0 :: o1 :: o2 :: o3 :: o4 :: o5 :: o6 :: o7 :: o8 :: o9 :: o10 :: o11 :: o12 :: o13 :: o14 :: some (zg_i z) :: rs) st K N P V) : zg_G Γ Ξ μ R Ω bc bs pc (o0 :: o1 :: o2 :: o3 :: o4 :: o5 :: o6 :: o7 :: o8 :: o9 :: o10 :: o11 :: o12 :: o13 :: o14 :: o15 :: rs) (zg_i z :: st) K N P V := by
  intro p e s m args below meth c H locs cells slots lz X Y
  exact lv_istore X.1 X.2.1 hd (zg_lh_has Y.1) hn rfl (fun lz' h => k p e s m args below meth c H locs cells slots lz' X ⟨zg_lh_store (fun w _ h => hc w (Option.some.inj h)) h, Y.2⟩)
theorem zg_as15 {a : Nat} (hd : decode μ.2.1 pc = .ok (.astore 15, 2)) (hc : ∀ w, o14 = some w → w.category = 1) (hn : 15 < μ.2.2.1)
    (k : zg_G Γ Ξ μ R Ω bc bs (pc + 2) (o0 :: o1 :: o2 :: o3 :: o4 :: o5 :: o6 :: o7 :: o8 :: o9 :: o10 :: o11 :: o12 :: o13 :: o14 :: some (zg_r Γ a) :: rs) st K N P V) : zg_G Γ Ξ μ R Ω bc bs pc (o0 :: o1 :: o2 :: o3 :: o4 :: o5 :: o6 :: o7 :: o8 :: o9 :: o10 :: o11 :: o12 :: o13 :: o14 :: o15 :: rs) (zg_r Γ a :: st) K N P V := by
  intro p e s m args below meth c H locs cells slots lz X Y
  exact lv_astore X.1 X.2.1 hd (zg_lh_has Y.1) hn rfl (fun lz' h => k p e s m args below meth c H locs cells slots lz' X ⟨zg_lh_store (fun w _ h => hc w (Option.some.inj h)) h, Y.2⟩)
theorem zg_ls15 {z : Int} (hd : decode μ.2.1 pc = .ok (.lstore 15, 2)) (hc : ∀ w, o14 = some w → w.category = 1) (hn : 15 + 1 < μ.2.2.1)
    (k : zg_G Γ Ξ μ R Ω bc bs (pc + 2) (o0 :: o1 :: o2 :: o3 :: o4 :: o5 :: o6 :: o7 :: o8 :: o9 :: o10 :: o11 :: o12 :: o13 :: o14 :: some (zg_l z) :: none :: rs) st K N P V) : zg_G Γ Ξ μ R Ω bc bs pc (o0 :: o1 :: o2 :: o3 :: o4 :: o5 :: o6 :: o7 :: o8 :: o9 :: o10 :: o11 :: o12 :: o13 :: o14 :: o15 :: o16 :: rs) (zg_l z :: st) K N P V := by
  intro p e s m args below meth c H locs cells slots lz X Y
  exact lv_lstore X.1 X.2.1 hd (zg_lh_has Y.1) hn rfl (fun lz' h => k p e s m args below meth c H locs cells slots lz' X ⟨zg_lh_store2 (fun w _ h => hc w (Option.some.inj h)) h, Y.2⟩)
theorem zg_inc15 {z n : Int} (hd : decode μ.2.1 pc = .ok (.iinc 15 n, 3)) (hc : ∀ w, o14 = some w → w.category = 1) (hn : 15 < μ.2.2.1)
    (k : zg_G Γ Ξ μ R Ω bc bs (pc + 3) (o0 :: o1 :: o2 :: o3 :: o4 :: o5 :: o6 :: o7 :: o8 :: o9 :: o10 :: o11 :: o12 :: o13 :: o14 :: some (zg_i (z + n)) :: rs) st K N P V) : zg_G Γ Ξ μ R Ω bc bs pc (o0 :: o1 :: o2 :: o3 :: o4 :: o5 :: o6 :: o7 :: o8 :: o9 :: o10 :: o11 :: o12 :: o13 :: o14 :: some (zg_i z) :: rs) st K N P V := by
  intro p e s m args below meth c H locs cells slots lz X Y
  obtain ⟨kx, hkx⟩ := List.getElem?_of_mem (zg_pr_mem.mpr (show (o0 :: o1 :: o2 :: o3 :: o4 :: o5 :: o6 :: o7 :: o8 :: o9 :: o10 :: o11 :: o12 :: o13 :: o14 :: some (zg_i z) :: rs)[15]? = some (some (zg_i z)) from rfl))
  exact lv_iinc (v := Int32.ofInt (z + n)) X.1 X.2.1 hd (zg_lh_has Y.1) hkx (Int32.ofInt_add z n).symm hn rfl (fun lz' h => k p e s m args below meth c H locs cells slots lz' X ⟨zg_lh_store (fun w _ h => hc w (Option.some.inj h)) h, Y.2⟩)
end ZL
theorem zg_forget {ls' : List (Option Value)} (h : ∀ (i : Nat) (v : Value), ls'[i]? = some (some v) → ls[i]? = some (some v)) (k : zg_G Γ Ξ μ R Ω bc bs pc ls' st K N P V) : zg_G Γ Ξ μ R Ω bc bs pc ls st K N P V :=
  fun p e s m args below meth c H locs cells slots lz X Y => k p e s m args below meth c H locs cells slots lz X ⟨⟨Y.1.1, Y.1.2.1, fun i v q => Y.1.2.2 i v (h i v q)⟩, Y.2⟩
end ZG
end
section
/-! Own layer, 3: fields, arrays, calls, entry and end -/
def zn_F (own : String) (ix ci k : Nat) : Prop := ci < zn_nc ∧ k < zn_n ci ∧ (zn_T ci k).1 = zn_C ci ∧ Cond.fieldLink own ix (zn_C ci) (zn_T ci k).2.1 (zn_T ci k).2.2.1 ∈ zn_TS
theorem zg_d_put {Γ : zg_C} {K : zg_K} {N : Nat} {P P' : zg_P} {V V' : zg_V} {H H' : Heap} (h : zg_d Γ K N P V H) (hP : va_P Γ.2.2.1 zn_cl (zg_w Γ K N P' V') H') (z : H'.size = H.size) : zg_d Γ K N P' V' H' := ⟨hP, z.trans h.2⟩
theorem zg_T_warm {Γ : zg_C} {s U : State} (hW : s.WarmedH U.vm) (h : zg_T Γ s) : zg_T Γ U := ⟨va_K.moved hW.alike h.1, zn_B_warm hW h.2⟩
theorem zg_tys_at {Γ : zg_C} : (zg_tys Γ)[0]? = some (Γ.2.2.2 0, .int) ∧ (zg_tys Γ)[1]? = some (Γ.2.2.2 1, .long) ∧ (zg_tys Γ)[2]? = some (Γ.2.2.2 2, .boolean) := ⟨rfl, rfl, rfl⟩
theorem zg_tys_ra {Γ : zg_C} {t : Nat} {ty : FieldType} (h : zn_ra[t]? = some ty) : (zg_tys Γ)[t + 3]? = some (Γ.2.2.2 (t + 3), ty) := by
  have hl : t < zn_ra.length := (List.getElem?_eq_some_iff.mp h).1
  unfold zg_tys
  rw [List.getElem?_append_right (by simp)]
  simp [List.getElem?_map, List.getElem?_range hl, List.getD, h]
section ZM
variable {Γ : zg_C} {Ξ : State → Prop} {μ : zg_M} {R : Room} {Ω : List Frame → Array Value → State → State → Prop} {d mc ms bc bs pc N : Nat} {Q : zg_Q} {ls : List (Option Value)} {st : List Value} {K : zg_K} {P : zg_P} {V : zg_V}
theorem zg_get {ix ci k a : Nat} {v : Value} (hd : decode μ.2.1 pc = .ok (.getfield ix, 3)) (hf : zn_F μ.1.cls ix ci k) (ha : a < N) (hk : K a = (0, ci)) (hv : zg_fv Γ (zn_ty ci k) (V a k) (P a k) = v)
    (kk : zg_G Γ Ξ μ R Ω bc bs (pc + 3) ls (v :: st) K N P V) : zg_G Γ Ξ μ R Ω bc bs pc ls (zg_r Γ a :: st) K N P V := by
  intro p e s m args below meth c H locs cells slots lz X Y
  obtain ⟨h1, h2, h3, h4⟩ := hf
  exact va_get (T := zn_T ci) (N := zn_n ci) (C := zn_C ci) (Ts := zn_TS) X.1 X.2.1 X.2.2.2.2.2.1 (zn_uws ci h1) X.2.2.2.2.2.2.1 X.2.2.2.2.2.2.2.2.1.1 Y.2.1.1 a (by rw [zg_w_at _ _ _ _ ha, zg_e0 hk]) (zn_cl_at ci h1) k h2 (X.2.2.2.2.2.1 _ h4) (fun x hx => by rw [h3] at hx; exact hx) (v := v) (by rw [zg_fs_at Γ h2, hv]) hd (kk p e s m args below meth c H locs cells slots lz X Y)
theorem zg_geti {ix ci k a : Nat} (hd : decode μ.2.1 pc = .ok (.getfield ix, 3)) (hf : zn_F μ.1.cls ix ci k) (ha : a < N) (hk : K a = (0, ci)) (ht : zn_ty ci k = .int)
    (kk : zg_G Γ Ξ μ R Ω bc bs (pc + 3) ls (zg_i (V a k) :: st) K N P V) : zg_G Γ Ξ μ R Ω bc bs pc ls (zg_r Γ a :: st) K N P V := zg_get hd hf ha hk (by rw [ht]; rfl) kk
theorem zg_getz {ix ci k a : Nat} (hd : decode μ.2.1 pc = .ok (.getfield ix, 3)) (hf : zn_F μ.1.cls ix ci k) (ha : a < N) (hk : K a = (0, ci)) (ht : zn_ty ci k = .boolean)
    (kk : zg_G Γ Ξ μ R Ω bc bs (pc + 3) ls (zg_i (V a k) :: st) K N P V) : zg_G Γ Ξ μ R Ω bc bs pc ls (zg_r Γ a :: st) K N P V := zg_get hd hf ha hk (by rw [ht]; rfl) kk
theorem zg_getl {ix ci k a : Nat} (hd : decode μ.2.1 pc = .ok (.getfield ix, 3)) (hf : zn_F μ.1.cls ix ci k) (ha : a < N) (hk : K a = (0, ci)) (ht : zn_ty ci k = .long)
    (kk : zg_G Γ Ξ μ R Ω bc bs (pc + 3) ls (zg_l (V a k) :: st) K N P V) : zg_G Γ Ξ μ R Ω bc bs pc ls (zg_r Γ a :: st) K N P V := zg_get hd hf ha hk (by rw [ht]; rfl) kk
theorem zg_fv_r {Γ : zg_C} {ty : FieldType} (ht : ty.isReference = true) (z : Int) (r : Option Nat) : zg_fv Γ ty z r = zg_o Γ r := by
  cases ty <;> first | rfl | (simp [FieldType.isReference] at ht)
theorem zg_getr {ix ci k a q : Nat} (hd : decode μ.2.1 pc = .ok (.getfield ix, 3)) (hf : zn_F μ.1.cls ix ci k) (ha : a < N) (hk : K a = (0, ci)) (ht : (zn_ty ci k).isReference = true) (hq : P a k = some q)
    (kk : zg_G Γ Ξ μ R Ω bc bs (pc + 3) ls (zg_r Γ q :: st) K N P V) : zg_G Γ Ξ μ R Ω bc bs pc ls (zg_r Γ a :: st) K N P V := zg_get hd hf ha hk (by rw [zg_fv_r ht, hq]; rfl) kk
theorem zg_put {ix ci k a : Nat} {v : Value} {P' : zg_P} {V' : zg_V} (hd : decode μ.2.1 pc = .ok (.putfield ix, 3)) (hf : zn_F μ.1.cls ix ci k) (hfin : (zn_T ci k).2.2.2 = false) (ha : a < N) (hk : K a = (0, ci)) (hn : narrow (zn_ty ci k) v = v) (hfit : fits (zn_ty ci k) v = true)
    (hv : zg_fv Γ (zn_ty ci k) (V' a k) (P' a k) = v) (ho : ∀ x, x ≠ k → V' a x = V a x ∧ P' a x = P a x) (hq : ∀ x, x ≠ a → V' x = V x ∧ P' x = P x)
    (kk : zg_G Γ Ξ μ R Ω bc bs (pc + 3) ls st K N P' V') : zg_G Γ Ξ μ R Ω bc bs pc ls (v :: zg_r Γ a :: st) K N P V := by
  intro p e s m args below meth c H locs cells slots lz X Y
  obtain ⟨h1, h2, h3, h4⟩ := hf
  have hts := X.2.2.2.2.2.1
  have hin : ∀ w ∈ u_ws (zn_C ci) (zn_T ci) (zn_n ci), w ∈ zn_TS := zn_uws ci h1
  have hK := X.2.2.2.2.2.2.2.2.1.1
  have hP := Y.2.1.1
  have hD := zg_w_D Γ K N P V
  have hc := zn_cl_at ci h1
  have he : (zg_w Γ K N P V)[a]? = some (Γ.2.1 + a, .inr (ci, zg_fs Γ ci (V a) (P a))) := by rw [zg_w_at _ _ _ _ ha, zg_e0 hk]
  have hap := va_apart (own := μ.1.cls) hts hin (zn_ty ci) (zn_tyok ci h1) (zn_nm ci h1) hK hc
  obtain ⟨r, g1, cell, q1, q2, q3, q4⟩ := hP a _ he
  have hr : r = (zn_C ci, zn_T ci, zn_n ci) := Option.some.inj (g1.symm.trans hc)
  subst hr
  obtain ⟨hS, hfc, kC, hkC, hkind⟩ := hK.1 ci _ hc
  obtain ⟨cf, kf, fi, f, hi, hsl⟩ := hS k h2
  have hlay := hts _ (hin _ (u_in_lay h2))
  unfold u_lay at hlay
  rw [if_neg (by rw [hfin]; decide)] at hlay
  have hst := (u_facts hfc hkC (u_lays hts hin h2) hi).1
  have h6 := u_store hfc hkC hkind hlay hi (zn_tyok ci h1 k h2) hn hfit
  refine W.putK X.1 X.2.1 (f := f) ⟨X.2.2.2.2.2.2.1, hts _ h4, ⟨_, _, _, by rw [h3] at hi; exact hi⟩, hst⟩ (by rw [q2]; exact h6) q1 q3 (by rw [hsl]; exact k2_hasslot (q4 k h2)) rfl rfl hd fun H' e1 e2 e3 => ?_
  rw [hsl] at e1 ⊢
  have hP' := hP.set (e := .inr (ci, (zg_fs Γ ci (V a) (P a)).set k v)) (H1 := H') hD he ⟨_, hc, t_OB.to (V := updV (vp_V (zg_fs Γ ci (V a) (P a))) k v) ⟨_, e1, q2, q3, t_set q4 hap h2 v⟩ (fun j _ => vp_updV_set (by rw [zg_fs_len]; exact h2) v j)⟩ e3
  rw [zg_fs_set h2 hv ho, zg_w_set (K' := K) (P' := P') (V' := V') ha (by rw [zg_e0 hk]) (fun x hx => ⟨rfl, hq x hx⟩)] at hP'
  exact kk p e s m args below meth c H' _ cells slots lz X ⟨Y.1, zg_d_put Y.2.1 hP' e2, Y.2.2.1.put e2 e3 (hD.2 a _ he), Y.2.2.2⟩
theorem zg_u_in (V : zg_V) (a k : Nat) (x : Int) : zg_u V a k x a k = x := by simp [zg_u]
theorem zg_u_off (V : zg_V) (a k : Nat) (x : Int) {j : Nat} (h : j ≠ k) : zg_u V a k x a j = V a j := by simp [zg_u, h]
theorem zg_u_out (V : zg_V) (a k : Nat) (x : Int) {b : Nat} (h : b ≠ a) : zg_u V a k x b = V b := by funext j; simp [zg_u, h]
theorem zg_up_in (P : zg_P) (a k : Nat) (x : Option Nat) : zg_up P a k x a k = x := by simp [zg_up]
theorem zg_up_off (P : zg_P) (a k : Nat) (x : Option Nat) {j : Nat} (h : j ≠ k) : zg_up P a k x a j = P a j := by simp [zg_up, h]
theorem zg_up_out (P : zg_P) (a k : Nat) (x : Option Nat) {b : Nat} (h : b ≠ a) : zg_up P a k x b = P b := by funext j; simp [zg_up, h]
theorem zg_puti {ix ci k a : Nat} {x : Int} (hd : decode μ.2.1 pc = .ok (.putfield ix, 3)) (hf : zn_F μ.1.cls ix ci k) (hfin : (zn_T ci k).2.2.2 = false) (ha : a < N) (hk : K a = (0, ci)) (ht : zn_ty ci k = .int)
    (kk : zg_G Γ Ξ μ R Ω bc bs (pc + 3) ls st K N P (zg_u V a k x)) : zg_G Γ Ξ μ R Ω bc bs pc ls (zg_i x :: zg_r Γ a :: st) K N P V :=
  zg_put hd hf hfin ha hk (by rw [ht]; rfl) (by rw [ht]; rfl) (by rw [ht, zg_u_in]; rfl) (fun y hy => ⟨zg_u_off V a k x hy, rfl⟩) (fun y hy => ⟨zg_u_out V a k x hy, rfl⟩) kk
theorem zg_putz {ix ci k a : Nat} {x : Int} (hd : decode μ.2.1 pc = .ok (.putfield ix, 3)) (hf : zn_F μ.1.cls ix ci k) (hfin : (zn_T ci k).2.2.2 = false) (ha : a < N) (hk : K a = (0, ci)) (ht : zn_ty ci k = .boolean) (hx : x = 0 ∨ x = 1)
    (kk : zg_G Γ Ξ μ R Ω bc bs (pc + 3) ls st K N P (zg_u V a k x)) : zg_G Γ Ξ μ R Ω bc bs pc ls (zg_i x :: zg_r Γ a :: st) K N P V :=
  zg_put hd hf hfin ha hk (by rw [ht]; rcases hx with rfl | rfl <;> rfl) (by rw [ht]; rcases hx with rfl | rfl <;> rfl) (by rw [ht, zg_u_in]; rfl) (fun y hy => ⟨zg_u_off V a k x hy, rfl⟩) (fun y hy => ⟨zg_u_out V a k x hy, rfl⟩) kk
theorem zg_putl {ix ci k a : Nat} {x : Int} (hd : decode μ.2.1 pc = .ok (.putfield ix, 3)) (hf : zn_F μ.1.cls ix ci k) (hfin : (zn_T ci k).2.2.2 = false) (ha : a < N) (hk : K a = (0, ci)) (ht : zn_ty ci k = .long)
    (kk : zg_G Γ Ξ μ R Ω bc bs (pc + 3) ls st K N P (zg_u V a k x)) : zg_G Γ Ξ μ R Ω bc bs pc ls (zg_l x :: zg_r Γ a :: st) K N P V :=
  zg_put hd hf hfin ha hk (by rw [ht]; rfl) (by rw [ht]; rfl) (by rw [ht, zg_u_in]; rfl) (fun y hy => ⟨zg_u_off V a k x hy, rfl⟩) (fun y hy => ⟨zg_u_out V a k x hy, rfl⟩) kk
theorem zg_putr {ix ci k a q : Nat} (hd : decode μ.2.1 pc = .ok (.putfield ix, 3)) (hf : zn_F μ.1.cls ix ci k) (hfin : (zn_T ci k).2.2.2 = false) (ha : a < N) (hk : K a = (0, ci)) (ht : (zn_ty ci k).isReference = true)
    (kk : zg_G Γ Ξ μ R Ω bc bs (pc + 3) ls st K N (zg_up P a k (some q)) V) : zg_G Γ Ξ μ R Ω bc bs pc ls (zg_r Γ q :: zg_r Γ a :: st) K N P V :=
  zg_put hd hf hfin ha hk (by generalize zn_ty ci k = ty at ht; cases ty <;> first | rfl | (simp [FieldType.isReference] at ht)) (by generalize zn_ty ci k = ty at ht; cases ty <;> first | rfl | (simp [FieldType.isReference] at ht)) (by rw [zg_fv_r ht, zg_up_in]; rfl) (fun y hy => ⟨rfl, zg_up_off P a k _ hy⟩) (fun y hy => ⟨rfl, zg_up_out P a k _ hy⟩) kk
/-! ### arrays -/
theorem zg_iald {a n j : Nat} {z : Int} (hd : decode μ.2.1 pc = .ok (.iaload, 1)) (ha : a < N) (hk : K a = (1, n)) (hz : z = (j : Int)) (hj : j < n) (hn : n ≤ 2147483648)
    (kk : zg_G Γ Ξ μ R Ω bc bs (pc + 1) ls (zg_i (V a j) :: st) K N P V) : zg_G Γ Ξ μ R Ω bc bs pc ls (zg_i z :: zg_r Γ a :: st) K N P V := by
  intro p e s m args below meth c H locs cells slots lz X Y
  refine va_iald X.1 X.2.1 X.2.2.2.2.2.2.2.2.1.1 Y.2.1.1 a 0 (by rw [zg_w_at _ _ _ _ ha, zg_e1 hk]) zg_tys_at.1 (zg_in hz hj hn) hd ?_
  rw [zg_nat hz (by omega)]
  exact kk p e s m args below meth c H locs cells slots lz X Y
theorem zg_lald {a n j : Nat} {z : Int} (hd : decode μ.2.1 pc = .ok (.laload, 1)) (ha : a < N) (hk : K a = (2, n)) (hz : z = (j : Int)) (hj : j < n) (hn : n ≤ 2147483648)
    (kk : zg_G Γ Ξ μ R Ω bc bs (pc + 1) ls (zg_l (V a j) :: st) K N P V) : zg_G Γ Ξ μ R Ω bc bs pc ls (zg_i z :: zg_r Γ a :: st) K N P V := by
  intro p e s m args below meth c H locs cells slots lz X Y
  refine va_lald X.1 X.2.1 X.2.2.2.2.2.2.2.2.1.1 Y.2.1.1 a 1 (by rw [zg_w_at _ _ _ _ ha, zg_e2 hk]) zg_tys_at.2.1 (zg_in hz hj hn) hd ?_
  rw [zg_nat hz (by omega)]
  exact kk p e s m args below meth c H locs cells slots lz X Y
theorem zg_zald {a n j : Nat} {z : Int} (hd : decode μ.2.1 pc = .ok (.baload, 1)) (ha : a < N) (hk : K a = (3, n)) (hz : z = (j : Int)) (hj : j < n) (hn : n ≤ 2147483648)
    (kk : zg_G Γ Ξ μ R Ω bc bs (pc + 1) ls (zg_i (V a j) :: st) K N P V) : zg_G Γ Ξ μ R Ω bc bs pc ls (zg_i z :: zg_r Γ a :: st) K N P V := by
  intro p e s m args below meth c H locs cells slots lz X Y
  refine va_zald X.1 X.2.1 X.2.2.2.2.2.2.2.2.1.1 Y.2.1.1 a 2 (by rw [zg_w_at _ _ _ _ ha, zg_e3 hk]) zg_tys_at.2.2 (zg_in hz hj hn) hd ?_
  rw [zg_nat hz (by omega)]
  exact kk p e s m args below meth c H locs cells slots lz X Y
theorem zg_aald {a n j t q : Nat} {z : Int} {ty : FieldType} (hd : decode μ.2.1 pc = .ok (.aaload, 1)) (ha : a < N) (hk : K a = (t + 4, n)) (ht : zn_ra[t]? = some ty) (hty : ty.isReference = true) (hz : z = (j : Int)) (hj : j < n) (hn : n ≤ 2147483648) (hq : P a j = some q)
    (kk : zg_G Γ Ξ μ R Ω bc bs (pc + 1) ls (zg_r Γ q :: st) K N P V) : zg_G Γ Ξ μ R Ω bc bs pc ls (zg_i z :: zg_r Γ a :: st) K N P V := by
  intro p e s m args below meth c H locs cells slots lz X Y
  have he : (zg_w Γ K N P V)[a]? = some (Γ.2.1 + a, .inl (Γ.2.2.2 (t + 3), n, .inr (.inr (.inr (.inr (fun j => (P a j).map (fun a => Γ.2.1 + a))))))) := by rw [zg_w_at _ _ _ _ ha, zg_e4 hk]
  refine W.aald (v := zg_r Γ q) (ty := ty) X.1 X.2.1 (Y.2.1.1 a _ he) ((X.2.2.2.2.2.2.2.2.1.1.2 (t + 3) _ (zg_tys_ra ht)).1 n (fun j => va_rf ((P a j).map (fun a => Γ.2.1 + a)))) hty (fun q => by cases q) (by show ¬ (Int32.ofInt z < 0 ∨ (arrV _ _ _).slots.size ≤ _); rw [arrV_size]; exact zg_in hz hj hn) (by show (arrV _ _ _).slots[_]? = _; rw [zg_nat hz (by omega), arrV_read _ _ hj]; show some (va_rf ((P a j).map _)) = _; rw [hq]; rfl) rfl rfl hd (kk p e s m args below meth c H locs cells slots lz X Y)
theorem zg_iast {a n j : Nat} {z x : Int} (hd : decode μ.2.1 pc = .ok (.iastore, 1)) (ha : a < N) (hk : K a = (1, n)) (hz : z = (j : Int)) (hj : j < n) (hn : n ≤ 2147483648)
    (kk : zg_G Γ Ξ μ R Ω bc bs (pc + 1) ls st K N P (zg_u V a j x)) : zg_G Γ Ξ μ R Ω bc bs pc ls (zg_i x :: zg_i z :: zg_r Γ a :: st) K N P V := by
  intro p e s m args below meth c H locs cells slots lz X Y
  have he : (zg_w Γ K N P V)[a]? = some (Γ.2.1 + a, .inl (Γ.2.2.2 0, n, .inl (fun j => Int32.ofInt (V a j)))) := by rw [zg_w_at _ _ _ _ ha, zg_e1 hk]
  have hD := zg_w_D Γ K N P V
  refine W.iast X.1 X.2.1 (Y.2.1.1 a _ he) ((X.2.2.2.2.2.2.2.2.1.1.2 0 _ zg_tys_at.1).1 n (fun j => .int (Int32.ofInt (V a j)))) (fun q => by cases q) (by show ¬ (Int32.ofInt z < 0 ∨ (arrV _ _ _).slots.size ≤ _); rw [arrV_size]; exact zg_in hz hj hn) rfl rfl hd fun H1 e1 e2 e3 => ?_
  rw [zg_nat hz (by omega)] at e1 ⊢
  have hP' := Y.2.1.1.set hD he (e := .inl (Γ.2.2.2 0, n, .inl (fun i => Int32.ofInt (zg_u V a j x a i)))) (H1 := H1) (by
    show H1[Γ.2.1 + a]? = some (vp_cell _ _)
    rw [e1, vp_cell_i, vp_cell_i, arrV_store]
    congr 2
    funext i
    by_cases hi : i = j
    · subst hi; simp [updV, zg_u]
    · simp [updV, zg_u, hi]) e3
  rw [zg_w_set (K' := K) (P' := P) (V' := zg_u V a j x) ha (by rw [zg_e1 hk]) (fun y hy => ⟨rfl, zg_u_out V a j x hy, rfl⟩)] at hP'
  exact kk p e s m args below meth c H1 _ cells slots lz X ⟨Y.1, zg_d_put Y.2.1 hP' e2, Y.2.2.1.put e2 e3 (hD.2 a _ he), Y.2.2.2⟩
theorem zg_last {a n j : Nat} {z x : Int} (hd : decode μ.2.1 pc = .ok (.lastore, 1)) (ha : a < N) (hk : K a = (2, n)) (hz : z = (j : Int)) (hj : j < n) (hn : n ≤ 2147483648)
    (kk : zg_G Γ Ξ μ R Ω bc bs (pc + 1) ls st K N P (zg_u V a j x)) : zg_G Γ Ξ μ R Ω bc bs pc ls (zg_l x :: zg_i z :: zg_r Γ a :: st) K N P V := by
  intro p e s m args below meth c H locs cells slots lz X Y
  have he : (zg_w Γ K N P V)[a]? = some (Γ.2.1 + a, .inl (Γ.2.2.2 1, n, .inr (.inl (fun j => Int64.ofInt (V a j))))) := by rw [zg_w_at _ _ _ _ ha, zg_e2 hk]
  have hD := zg_w_D Γ K N P V
  refine W.last X.1 X.2.1 (Y.2.1.1 a _ he) ((X.2.2.2.2.2.2.2.2.1.1.2 1 _ zg_tys_at.2.1).1 n (fun j => .long (Int64.ofInt (V a j)))) (fun q => by cases q) (by show ¬ (Int32.ofInt z < 0 ∨ (arrV _ _ _).slots.size ≤ _); rw [arrV_size]; exact zg_in hz hj hn) rfl rfl hd fun H1 e1 e2 e3 => ?_
  rw [zg_nat hz (by omega)] at e1 ⊢
  have hP' := Y.2.1.1.set hD he (e := .inl (Γ.2.2.2 1, n, .inr (.inl (fun i => Int64.ofInt (zg_u V a j x a i))))) (H1 := H1) (by
    show H1[Γ.2.1 + a]? = some (vp_cell _ _)
    rw [e1, vp_cell_l, vp_cell_l, arrV_store]
    congr 2
    funext i
    by_cases hi : i = j
    · subst hi; simp [updV, zg_u]
    · simp [updV, zg_u, hi]) e3
  rw [zg_w_set (K' := K) (P' := P) (V' := zg_u V a j x) ha (by rw [zg_e2 hk]) (fun y hy => ⟨rfl, zg_u_out V a j x hy, rfl⟩)] at hP'
  exact kk p e s m args below meth c H1 _ cells slots lz X ⟨Y.1, zg_d_put Y.2.1 hP' e2, Y.2.2.1.put e2 e3 (hD.2 a _ he), Y.2.2.2⟩
theorem zg_zast {a n j : Nat} {z x : Int} (hd : decode μ.2.1 pc = .ok (.bastore, 1)) (ha : a < N) (hk : K a = (3, n)) (hz : z = (j : Int)) (hj : j < n) (hn : n ≤ 2147483648) (hx : x = 0 ∨ x = 1)
    (kk : zg_G Γ Ξ μ R Ω bc bs (pc + 1) ls st K N P (zg_u V a j x)) : zg_G Γ Ξ μ R Ω bc bs pc ls (zg_i x :: zg_i z :: zg_r Γ a :: st) K N P V := by
  intro p e s m args below meth c H locs cells slots lz X Y
  have he : (zg_w Γ K N P V)[a]? = some (Γ.2.1 + a, .inl (Γ.2.2.2 2, n, .inl (fun j => Int32.ofInt (V a j)))) := by rw [zg_w_at _ _ _ _ ha, zg_e3 hk]
  have hD := zg_w_D Γ K N P V
  have hnx : narrow .boolean (.int (Int32.ofInt x)) = .int (Int32.ofInt x) := by rcases hx with rfl | rfl <;> rfl
  refine W.zast X.1 X.2.1 (Y.2.1.1 a _ he) ((X.2.2.2.2.2.2.2.2.1.1.2 2 _ zg_tys_at.2.2).1 n (fun j => .int (Int32.ofInt (V a j)))) (fun q => by cases q) (by show ¬ (Int32.ofInt z < 0 ∨ (arrV _ _ _).slots.size ≤ _); rw [arrV_size]; exact zg_in hz hj hn) rfl rfl hd fun H1 e1 e2 e3 => ?_
  rw [zg_nat hz (by omega)] at e1 ⊢
  have hP' := Y.2.1.1.set hD he (e := .inl (Γ.2.2.2 2, n, .inl (fun i => Int32.ofInt (zg_u V a j x a i)))) (H1 := H1) (by
    show H1[Γ.2.1 + a]? = some (vp_cell _ _)
    rw [e1, vp_cell_i, vp_cell_i, arrV_store]
    congr 2
    funext i
    by_cases hi : i = j
    · subst hi; simp [updV, zg_u, hnx]
    · simp [updV, zg_u, hi]) e3
  rw [zg_w_set (K' := K) (P' := P) (V' := zg_u V a j x) ha (by rw [zg_e3 hk]) (fun y hy => ⟨rfl, zg_u_out V a j x hy, rfl⟩)] at hP'
  exact kk p e s m args below meth c H1 _ cells slots lz X ⟨Y.1, zg_d_put Y.2.1 hP' e2, Y.2.2.1.put e2 e3 (hD.2 a _ he), Y.2.2.2⟩
/-! ### entry and end -/
def zg_en : List Value → List (Option Value)
  | [] => []
  | v :: vs => if v.category = 2 then some v :: none :: zg_en vs else some v :: zg_en vs
theorem zg_en_mem (n : Nat) : ∀ (vs : List Value) (o i : Nat) (v : Value), (zg_en vs ++ List.replicate n none)[i]? = some (some v) → (o + i, v) ∈ lv_args o vs
  | [], o, i, v, h => by
    simp [zg_en, List.getElem?_replicate] at h
  | x :: vs, o, i, v, h => by
    unfold zg_en at h
    unfold lv_args
    by_cases hc : x.category = 2
    · rw [if_pos hc] at h
      rw [if_pos hc]
      match i, h with
      | 0, h => simp at h; subst h; exact List.mem_cons_self
      | 1, h => simp at h
      | i + 2, h =>
        have h' : (zg_en vs ++ List.replicate n none)[i]? = some (some v) := by simpa using h
        have := zg_en_mem n vs (o + 2) i v h'
        rw [show o + (i + 2) = o + 2 + i by omega]
        exact List.mem_cons_of_mem _ this
    · rw [if_neg hc] at h
      rw [if_neg hc]
      match i, h with
      | 0, h => simp at h; subst h; exact List.mem_cons_self
      | i + 1, h =>
        have h' : (zg_en vs ++ List.replicate n none)[i]? = some (some v) := by simpa using h
        have := zg_en_mem n vs (o + 1) i v h'
        rw [show o + (i + 1) = o + 1 + i by omega]
        exact List.mem_cons_of_mem _ this
theorem zg_enter {args : List Value} (n : Nat) (hy : plainName μ.1.cls = true) (hl : (lg_sl args).length ≤ μ.2.2.1) (he : zg_en args ++ List.replicate n none = ls)
    (k : zg_G Γ (fun _ => True) μ (zg_rm d mc ms) (zg_Ω Γ Q mc ms) mc ms 0 ls [] K N P V) : zg_S Γ μ d mc ms args K N P V Q := by
  refine Met.ofW (cc := μ.2.1) (maxL := μ.2.2.1) (ret := μ.2.2.2) hy rfl ?_
  intro p e s m args' below meth c s₁ B hml hv
  obtain ⟨rfl, hT, hw⟩ := hv
  have hl' := lv_entry args (n := μ.2.2.1) hl
  have hts := atoms_spec (ws := zg_ws μ) B.pre
  rw [lg_entry_eq]
  refine k p e s m args.toArray below meth c s.heap [] 0 0 _ ⟨B.exec, B.bytes, hml, B.returns, B.notSynchronized, fun w hw => hts w (List.mem_cons_of_mem _ hw), findClass_of_methodNamed B.named, (name_of_methodNamed B.named B.method).1, hT, by rw [hw.2]; omega, trivial⟩ ⟨⟨hl'.1, hl'.2.1, fun i v hi => ?_⟩, hw, va_S.rf, by show 0 + mc ≤ mc; omega, by show 0 + ms ≤ ms; omega⟩
  rw [← he] at hi
  have := zg_en_mem n args 0 i v hi
  rw [Nat.zero_add] at this
  exact hl'.2.2 (i, v) this
theorem zg_ireturn {z : Int} (hd : decode μ.2.1 pc = .ok (.ireturn, 1)) (hr : μ.2.2.2 = some .int) (hQ : Q (some (zg_i z)) K N P V) : zg_G Γ Ξ μ (zg_rm d mc ms) (zg_Ω Γ Q mc ms) bc bs pc ls [zg_i z] K N P V := by
  intro p e s m args below meth c H locs cells slots lz X Y
  refine W.widen (k := mc) (n := ms) (by have : cells + bc ≤ mc := Y.2.2.2.1; omega) (by have : slots + bs ≤ ms := Y.2.2.2.2; omega) ?_
  exact W.iret (v := Int32.ofInt z) X.1 X.2.1 (X.2.2.2.1.trans hr) (fun t ht hW => ⟨⟨some (zg_i z), K, N, P, V, rfl, hQ, by rw [ht]; exact Y.2.1⟩, Y.2.2.1.F ht⟩) Y.2.2.1.2.2 hd X.2.2.2.2.1
theorem zg_zreturn {z : Int} (hd : decode μ.2.1 pc = .ok (.ireturn, 1)) (hr : μ.2.2.2 = some .boolean) (hz : z = 0 ∨ z = 1) (hQ : Q (some (zg_i z)) K N P V) : zg_G Γ Ξ μ (zg_rm d mc ms) (zg_Ω Γ Q mc ms) bc bs pc ls [zg_i z] K N P V := by
  intro p e s m args below meth c H locs cells slots lz X Y
  refine W.widen (k := mc) (n := ms) (by have : cells + bc ≤ mc := Y.2.2.2.1; omega) (by have : slots + bs ≤ ms := Y.2.2.2.2; omega) ?_
  exact W.zret (v := Int32.ofInt z) (ty := .boolean) X.1 X.2.1 (X.2.2.2.1.trans hr) (by rcases hz with rfl | rfl <;> rfl) (fun t ht hW => ⟨⟨some (zg_i z), K, N, P, V, rfl, hQ, by rw [ht]; exact Y.2.1⟩, Y.2.2.1.F ht⟩) Y.2.2.1.2.2 hd X.2.2.2.2.1
theorem zg_lreturn {z : Int} (hd : decode μ.2.1 pc = .ok (.lreturn, 1)) (hr : μ.2.2.2 = some .long) (hQ : Q (some (zg_l z)) K N P V) : zg_G Γ Ξ μ (zg_rm d mc ms) (zg_Ω Γ Q mc ms) bc bs pc ls [zg_l z] K N P V := by
  intro p e s m args below meth c H locs cells slots lz X Y
  refine W.widen (k := mc) (n := ms) (by have : cells + bc ≤ mc := Y.2.2.2.1; omega) (by have : slots + bs ≤ ms := Y.2.2.2.2; omega) ?_
  exact W.lret (v := Int64.ofInt z) X.1 X.2.1 (X.2.2.2.1.trans hr) (fun t ht hW => ⟨⟨some (zg_l z), K, N, P, V, rfl, hQ, by rw [ht]; exact Y.2.1⟩, Y.2.2.1.F ht⟩) Y.2.2.1.2.2 hd X.2.2.2.2.1
theorem zg_return (hd : decode μ.2.1 pc = .ok (.return_, 1)) (hr : μ.2.2.2 = none) (hQ : Q (none) K N P V) : zg_G Γ Ξ μ (zg_rm d mc ms) (zg_Ω Γ Q mc ms) bc bs pc ls [] K N P V := by
  intro p e s m args below meth c H locs cells slots lz X Y
  refine W.widen (k := mc) (n := ms) (by have : cells + bc ≤ mc := Y.2.2.2.1; omega) (by have : slots + bs ≤ ms := Y.2.2.2.2; omega) ?_
  exact W.vret X.1 X.2.1 (X.2.2.2.1.trans hr) (fun t ht hW => ⟨⟨none, K, N, P, V, rfl, hQ, by rw [ht]; exact Y.2.1⟩, Y.2.2.1.F ht⟩) Y.2.2.1.2.2 hd X.2.2.2.2.1
/-! ### calls -/
def zn_M (μ' : zg_M) (n : Nat) : Prop := Cond.initialized μ'.1.cls ∈ zn_TS ∧ Cond.code μ'.1 μ'.2.1 μ'.2.2.1 μ'.2.2.2 ∈ zn_TS ∧ (μ'.1.cls ≠ "java/lang/invoke/MethodHandle" ∧ μ'.1.cls ≠ "java/lang/invoke/VarHandle") ∧ (parseMethodDescriptor μ'.1.desc).map (fun d => d.parameters.length) = some n ∧ μ'.2.2.1 ≤ 15
theorem zg_words {args : Array Value} {s : State} {μ' : zg_M} (hts : ∀ w ∈ zn_TS, w.before args s = true) (hc : Cond.code μ'.1 μ'.2.1 μ'.2.2.1 μ'.2.2.2 ∈ zn_TS) : ∀ w ∈ zg_ws μ', ∀ (a' : Array Value) (U : State), s.WarmedH U.vm → w.before a' U = true := by
  intro w hw a' U hW
  have h1 : w ∈ zn_TS := by
    rcases List.mem_cons.mp hw with rfl | h
    · exact hc
    · exact h
  exact word_at hW (zn_good w h1) (hts w h1)
theorem zg_callB {args : Array Value} {s : State} {μ' : zg_M} {ix n d' mc' ms' : Nat} (hts : ∀ w ∈ zn_TS, w.before args s = true) (hm : zn_M μ' n) (hl : Cond.methodLink μ.1.cls ix μ'.1 ∈ zn_TS) (hfr : d' + 1 ≤ R.frames) (hlo : 34 + 36 * d' ≤ R.locals) :
    CallB R s args μ.1.cls ix μ'.1 μ'.2.1 μ'.2.2.1 μ'.2.2.2 (zg_ws μ') (zg_rm d' mc' ms') mc' ms' n := by
  obtain ⟨h1, h2, h3, h4, h5⟩ := hm
  refine ⟨rfl, rfl, hfr, ?_, zg_words hts h2, List.mem_cons_self, hts _ h2, hts _ h1, h3, fun sig h => ?_, hts _ hl⟩
  · show 8 + (μ'.2.2.1 + 11) + 36 * d' ≤ R.locals
    omega
  · rw [h] at h4
    exact (Option.some.inj h4).symm
theorem zg_blind {args : List Value} : FrameBlind (va_Pc args (fun U => zg_T Γ U ∧ zg_d Γ K N P V U.heap)) := fun a U g mk q => ⟨q.1, ⟨va_K.moved (u := U) (U := U.calling g mk a) (Vm.Alike.refl U.vm) q.2.1.1, zn_B_same (u := U) (U := U.calling g mk a) rfl q.2.1.2⟩, q.2.2⟩
theorem zg_call_core {p : Program} {e : Env} {s : State} {m : MethodId} {args : Array Value} {below : List Frame} {meth : Method} {c : Code} {H : Heap} {locs : List Loc} {cells slots mc' ms' : Nat} {lz : Array Slot} {st0 : List Value} {Q' : zg_Q} {aa : Array Value}
    (hr : va_Run p Γ.1 e R s m args below meth c H locs cells slots mc' ms' (F0 m pc lz st0) st (zg_F Γ Q' aa) (zg_A Γ)) (X : zg_X Γ Ξ μ p s m args meth c) (Y : zg_Y Γ μ.2.2.1 R bc bs ls K N P V s H locs cells slots lz) (hbc : mc' ≤ bc) (hbs : ms' ≤ bs)
    (kk : ∀ (r : Option Value) (K' : zg_K) (N' : Nat) (P' : zg_P) (V' : zg_V), Q' r K' N' P' V' → zg_G Γ Ξ μ R Ω (bc - mc') (bs - ms') (pc + 3) ls (r.toList ++ st) K' N' P' V') :
    W p Γ.1 e R s m args below meth c H locs cells slots (Ω below args s) (F0 m pc lz st0) := by
  intro T hT Xs
  obtain ⟨v, st₀, t, T', L, h0, X', hL, e1, e2, ⟨⟨r, K', N', P', V', hv, hq, hd⟩, hz, hk⟩, stp⟩ := hr T hT Xs
  cases hv
  rw [h0] at hz hk
  obtain ⟨hlh, hd0, hS, hc1, hc2⟩ := Y
  obtain ⟨t2, a1, b1⟩ := kk v K' N' P' V' hq p e s m args below meth c T'.heap (locs ++ L) (cells + mc') (slots + ms') lz X ⟨hlh, by rw [e1]; exact hd, ⟨Nat.le_trans hS.1 (by rw [e1]; exact hz), fun q h1 h2 => by rw [e1, hk q (Nat.lt_of_lt_of_le h1 hS.1) h2]; exact hS.2.1 q h1 h2, fun q hq => by
      rcases List.mem_append.mp hq with h | h
      · exact hS.2.2 q h
      · exact hL q h⟩, by omega, by omega⟩ T' rfl X'
  exact ⟨t2, stp t2 a1, b1⟩
theorem zg_invV {μ' : zg_M} {ix n d' mc' ms' a ci : Nat} {As stk : List Value} {Q' : zg_Q} (hd : decode μ.2.1 pc = .ok (.invokevirtual ix, 3)) (hm : zn_M μ' n) (hl : Cond.methodLink μ.1.cls ix μ'.1 ∈ zn_TS) (hi : Cond.instanceMethod μ'.1 ∈ zn_TS) (hs : Cond.selects μ'.1.cls μ'.1 μ'.1 ∈ zn_TS)
    (hS : zg_S Γ μ' d' mc' ms' (zg_r Γ a :: As) K N P V Q') (hfr : d' + 1 ≤ R.frames) (hlo : 34 + 36 * d' ≤ R.locals) (hbc : mc' ≤ bc) (hbs : ms' ≤ bs) (hn : As.length = n) (ha : a < N) (hk : K a = (0, ci)) (hci : ci < zn_nc) (hC : zn_C ci = μ'.1.cls) (hw : (st.map fun v => v.category).sum ≤ 8) (hstk : stk = As.reverse ++ zg_r Γ a :: st)
    (kk : ∀ (r : Option Value) (K' : zg_K) (N' : Nat) (P' : zg_P) (V' : zg_V), Q' r K' N' P' V' → zg_G Γ Ξ μ R Ω (bc - mc') (bs - ms') (pc + 3) ls (r.toList ++ st) K' N' P' V') : zg_G Γ Ξ μ R Ω bc bs pc ls stk K N P V := by
  intro p e s m args below meth c H locs cells slots lz X Y
  have hts := X.2.2.2.2.2.1
  have h1 := Y.2.2.2.1
  have h2 := Y.2.2.2.2
  have hrv := va_recv X.2.2.2.2.2.2.2.2.1.1 Y.2.1.1 (zn_cl_at ci hci) (show (zg_w Γ K N P V)[a]? = some (Γ.2.1 + a, .inr (ci, zg_fs Γ ci (V a) (P a))) by rw [zg_w_at _ _ _ _ ha, zg_e0 hk])
  exact zg_call_core (va_runV (C := μ'.1.cls) (b := Γ.2.1 + a) (As := As) (rest := st) ⟨X.1, X.2.1, X.2.2.1, X.2.2.2.2.2.2.1, hts⟩ hS ⟨zg_callB hts hm hl hfr hlo, hts _ hi, hts _ hs⟩ ⟨zg_blind, by rw [← hC]; exact hrv, fun U hU hW => ⟨rfl, zg_T_warm hW X.2.2.2.2.2.2.2.2.1, by rw [hU]; exact Y.2.1⟩⟩ rfl hn Y.1.1 hstk (lv_room hw) hd ⟨by omega, by omega⟩) X Y hbc hbs kk
theorem zg_invS {μ' : zg_M} {ix n d' mc' ms' : Nat} {As stk : List Value} {Q' : zg_Q} (hd : decode μ.2.1 pc = .ok (.invokestatic ix, 3)) (hm : zn_M μ' n) (hl : Cond.methodLink μ.1.cls ix μ'.1 ∈ zn_TS) (hi : Cond.static μ'.1 ∈ zn_TS)
    (hS : zg_S Γ μ' d' mc' ms' As K N P V Q') (hfr : d' + 1 ≤ R.frames) (hlo : 34 + 36 * d' ≤ R.locals) (hbc : mc' ≤ bc) (hbs : ms' ≤ bs) (hn : As.length = n) (hw : (st.map fun v => v.category).sum ≤ 8) (hstk : stk = As.reverse ++ st)
    (kk : ∀ (r : Option Value) (K' : zg_K) (N' : Nat) (P' : zg_P) (V' : zg_V), Q' r K' N' P' V' → zg_G Γ Ξ μ R Ω (bc - mc') (bs - ms') (pc + 3) ls (r.toList ++ st) K' N' P' V') : zg_G Γ Ξ μ R Ω bc bs pc ls stk K N P V := by
  intro p e s m args below meth c H locs cells slots lz X Y
  have hts := X.2.2.2.2.2.1
  have h1 := Y.2.2.2.1
  have h2 := Y.2.2.2.2
  exact zg_call_core (va_runS (As := As) (rest := st) ⟨X.1, X.2.1, X.2.2.1, X.2.2.2.2.2.2.1, hts⟩ hS ⟨zg_callB hts hm hl hfr hlo, hts _ hi⟩ ⟨zg_blind, fun U hU hW => ⟨rfl, zg_T_warm hW X.2.2.2.2.2.2.2.2.1, by rw [hU]; exact Y.2.1⟩⟩ rfl hn Y.1.1 hstk (lv_room hw) hd ⟨by omega, by omega⟩) X Y hbc hbs kk
/-- a method whose picture may be weakened -/
theorem zg_S.mono {Q' : zg_Q} {args : List Value} (h : zg_S Γ μ d mc ms args K N P V Q) (hq : ∀ r K' N' P' V', Q r K' N' P' V' → Q' r K' N' P' V') : zg_S Γ μ d mc ms args K N P V Q' := by
  unfold zg_S Met at h ⊢
  refine Jvm.Free.MetFree.mono h (fun _ _ q => q) (fun _ _ _ _ _ q => q) ?_
  rintro a u o t - ⟨⟨⟨r, K', N', P', V', hv, hq', hd⟩, hf⟩, hL⟩
  exact ⟨⟨⟨r, K', N', P', V', hv, hq _ _ _ _ _ hq', hd⟩, hf⟩, hL⟩
end ZM
end
