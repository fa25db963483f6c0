/-! constructors of the class's parts -/
theorem zg_bud {Γ : zg_C} {Ξ : State → Prop} {μ : zg_M} {R : Room} {Ω : List Frame → Array Value → State → State → Prop} {bc bs bc' bs' pc N : Nat} {ls : List (Option Value)} {st : List Value} {K : zg_K} {P : zg_P} {V : zg_V} (h1 : bc ≤ bc') (h2 : bs ≤ bs') (k : zg_G Γ Ξ μ R Ω bc bs pc ls st K N P V) : zg_G Γ Ξ μ R Ω bc' bs' pc ls st K N P V := by
  intro p e s m args below meth c H locs cells slots lz X Y
  exact k p e s m args below meth c H locs cells slots lz X ⟨Y.1, Y.2.1, Y.2.2.1, by have := Y.2.2.2.1; omega, by have := Y.2.2.2.2; omega⟩
theorem zg_upR_out (P : zg_P) (N n : Nat) {b : Nat} (h : b ≠ N) : zg_upR P N n b = P b := by
  funext j
  unfold zg_upR
  rw [if_neg h]
theorem zi_PN_out (P : zg_P) (a : Nat) {b : Nat} (h : b ≠ a) (h2 : b ≠ a + 2) : zi_PN P a b = P b := by
  unfold zi_PN
  rw [zg_up_out _ _ _ _ h2, zg_up_out _ _ _ _ h2, zg_up_out _ _ _ _ h, zg_up_out _ _ _ _ h]
def zi_PT (P : zg_P) : zg_P := zg_up (zg_up (zg_up (zg_upR P 2 16) 1 0 (some 2)) 1 1 (some 19)) 1 2 (some 20)
def zi_PB (P : zg_P) : zg_P := zg_up (zg_upR P 22 16) 21 0 (some 22)
def zi_PS (P : zg_P) : zg_P := zg_up (zg_up (zg_up (zg_up (zg_up P 205 0 (some 206)) 204 0 (some 205)) 204 1 (some 207)) 204 2 (some 208)) 204 5 (some 209)
def zi_PU (P : zg_P) : zg_P := zg_up (zg_up (zg_up P 211 0 (some 212)) 210 0 (some 211)) 210 1 (some 213)
def zi_PC (P : zg_P) : zg_P := zg_up (zg_up (zg_up (zg_up (zg_up (zg_up (zg_up P 214 0 (some 215)) 216 0 (some 217)) 214 1 (some 216)) 214 2 (some 218)) 214 3 (some 219)) 214 4 (some 220)) 214 5 (some 221)
def zi_VC (V : zg_V) : zg_V := zf_set (zv_fill (zf_set V 215 0 1) 217 32 (-1)) 218 0 1
section ZT84
variable {Γ : zg_C} {V : zg_V} {P : zg_P}
theorem ci_Table (hV0 : ∀ b, 2 ≤ b → ∀ j, V b j = 0) (hP0 : ∀ b, 2 ≤ b → ∀ j, P b j = none) : zg_S Γ zm_Table_init 1 19 96 [zg_r Γ 1] zk_K 2 P V (zq_p zk_K 21 (zi_PT P) (zg_u V 1 3 0) none) := by
  have hKr : ∀ i, i < 16 → zk_K (2 + 1 + i) = (1, 3) := fun i hi => (zk_row i hi).1
  refine zg_enter 0 (by decide) (Nat.le_of_ble_eq_true rfl) rfl ?_
  refine zg_al0 zd_Table_init_0 ?_
  refine zg_obj zd_Table_init_1 zw_28 (by decide) (by decide) ?_
  refine zg_al0 zd_Table_init_4 ?_
  refine zg_bipush zd_Table_init_5 (by decide) ?_
  refine zg_iconst zd_Table_init_7 ?_
  refine zg_multi zd_Table_init_8 zw_29 (by first | assumption | rfl) hKr (by rfl) (by rfl) (by decide) (by decide) (fun b h1 h2 j => by first | exact hV0 b (by omega) j | (simp (disch := omega) only [zg_u_out, zv_fill_o, zf_set_o]; exact hV0 b (by omega) j)) (fun j => by first | exact hP0 _ (by omega) j | (simp (disch := omega) only [zg_up_out]; exact hP0 _ (by omega) j)) (by omega) (by first | omega | (simp only [zn_n]; omega)) ?_
  refine zg_putF zd_Table_init_12 zf_31 rfl rfl rfl (by omega) (by first | assumption | rfl) rfl ?_
  refine zg_al0 zd_Table_init_15 ?_
  refine zg_bipush zd_Table_init_16 (by decide) ?_
  refine zg_newi zd_Table_init_18 (by first | assumption | rfl) (by rfl) (by decide) (fun j => by first | exact hV0 _ (by omega) j | (simp (disch := omega) only [zg_u_out, zv_fill_o, zf_set_o]; exact hV0 _ (by omega) j)) (by omega) (by first | omega | (simp only [zn_n]; omega)) ?_
  refine zg_putF zd_Table_init_20 zf_35 rfl rfl rfl (by omega) (by first | assumption | rfl) rfl ?_
  refine zg_al0 zd_Table_init_23 ?_
  refine zg_bipush zd_Table_init_24 (by decide) ?_
  refine zg_newi zd_Table_init_26 (by first | assumption | rfl) (by rfl) (by decide) (fun j => by first | exact hV0 _ (by omega) j | (simp (disch := omega) only [zg_u_out, zv_fill_o, zf_set_o]; exact hV0 _ (by omega) j)) (by omega) (by first | omega | (simp only [zn_n]; omega)) ?_
  refine zg_putF zd_Table_init_28 zf_37 rfl rfl rfl (by omega) (by first | assumption | rfl) rfl ?_
  refine zg_al0 zd_Table_init_31 ?_
  refine zg_iconst zd_Table_init_32 ?_
  refine zg_puti zd_Table_init_33 zf_39 rfl (by omega) (by first | assumption | rfl) rfl ?_
  refine zg_return zd_Table_init_36 rfl ?_
  exact ⟨rfl, rfl, rfl, rfl, rfl⟩
theorem ci_Ballot (hV0 : ∀ b, 22 ≤ b → ∀ j, V b j = 0) (hP0 : ∀ b, 22 ≤ b → ∀ j, P b j = none) : zg_S Γ zm_Ballot_init 1 17 80 [zg_r Γ 21] zk_K 22 P V (zq_p zk_K 39 (zi_PB P) V none) := by
  have hKr : ∀ i, i < 16 → zk_K (22 + 1 + i) = (1, 4) := fun i hi => (zk_row i hi).2
  refine zg_enter 0 (by decide) (Nat.le_of_ble_eq_true rfl) rfl ?_
  refine zg_al0 zd_Ballot_init_0 ?_
  refine zg_obj zd_Ballot_init_1 zw_58 (by decide) (by decide) ?_
  refine zg_al0 zd_Ballot_init_4 ?_
  refine zg_bipush zd_Ballot_init_5 (by decide) ?_
  refine zg_iconst zd_Ballot_init_7 ?_
  refine zg_multi zd_Ballot_init_8 zw_59 (by first | assumption | rfl) hKr (by rfl) (by rfl) (by decide) (by decide) (fun b h1 h2 j => by first | exact hV0 b (by omega) j | (simp (disch := omega) only [zg_u_out, zv_fill_o, zf_set_o]; exact hV0 b (by omega) j)) (fun j => by first | exact hP0 _ (by omega) j | (simp (disch := omega) only [zg_up_out]; exact hP0 _ (by omega) j)) (by omega) (by first | omega | (simp only [zn_n]; omega)) ?_
  refine zg_putF zd_Ballot_init_12 zf_60 rfl rfl rfl (by omega) (by first | assumption | rfl) rfl ?_
  refine zg_return zd_Ballot_init_15 rfl ?_
  exact ⟨rfl, rfl, rfl, rfl, rfl⟩
theorem ci_Split (hV0 : ∀ b, 205 ≤ b → ∀ j, V b j = 0) (hP0 : ∀ b, 205 ≤ b → ∀ j, P b j = none) : zg_S Γ zm_SplitSearch_init 2 5 28 [zg_r Γ 204] zk_K 205 P V (zq_p zk_K 210 (zi_PS P) (zf_set V 209 0 1) none) := by
  refine zg_enter 0 (by decide) (Nat.le_of_ble_eq_true rfl) rfl ?_
  refine zg_al0 zd_SplitSearch_init_0 ?_
  refine zg_obj zd_SplitSearch_init_1 zw_183 (by decide) (by decide) ?_
  refine zg_al0 zd_SplitSearch_init_4 ?_
  refine zg_new (ci := 8) zd_SplitSearch_init_5 (by decide) zw_184 zw_185 zw_9 (by first | assumption | rfl) (fun j => by first | exact hV0 _ (by omega) j | (simp (disch := omega) only [zg_u_out, zv_fill_o, zf_set_o]; exact hV0 _ (by omega) j)) (fun j => by first | exact hP0 _ (by omega) j | (simp (disch := omega) only [zg_up_out]; exact hP0 _ (by omega) j)) (by omega) (by simp only [zn_n]; omega) ?_
  refine zg_dup zd_SplitSearch_init_8 rfl ?_
  refine zg_cI zd_SplitSearch_init_9 zM_Limits_init rfl zw_186 zi_Limits_init rfl (ci_Limits (a := 205) (N := 206) (by decide) rfl rfl (fun b hb j => hV0 b (by omega) j)) (by decide) (by decide) (by omega) (by first | omega | (simp only [zn_n]; omega)) (Nat.le_of_ble_eq_true rfl) ?_
  refine zg_putF zd_SplitSearch_init_12 zf_199 rfl rfl rfl (by omega) (by first | assumption | rfl) rfl ?_
  refine zg_al0 zd_SplitSearch_init_15 ?_
  refine zg_iconst zd_SplitSearch_init_16 ?_
  refine zg_newi zd_SplitSearch_init_17 (by first | assumption | rfl) (by rfl) (by decide) (fun j => by first | exact hV0 _ (by omega) j | (simp (disch := omega) only [zg_u_out, zv_fill_o, zf_set_o]; exact hV0 _ (by omega) j)) (by omega) (by first | omega | (simp only [zn_n]; omega)) ?_
  refine zg_putF zd_SplitSearch_init_19 zf_200 rfl rfl rfl (by omega) (by first | assumption | rfl) rfl ?_
  refine zg_al0 zd_SplitSearch_init_22 ?_
  refine zg_iconst zd_SplitSearch_init_23 ?_
  refine zg_newi zd_SplitSearch_init_24 (by first | assumption | rfl) (by rfl) (by decide) (fun j => by first | exact hV0 _ (by omega) j | (simp (disch := omega) only [zg_u_out, zv_fill_o, zf_set_o]; exact hV0 _ (by omega) j)) (by omega) (by first | omega | (simp only [zn_n]; omega)) ?_
  refine zg_putF zd_SplitSearch_init_26 zf_201 rfl rfl rfl (by omega) (by first | assumption | rfl) rfl ?_
  refine zg_al0 zd_SplitSearch_init_29 ?_
  refine zg_new (ci := 4) zd_SplitSearch_init_30 (by decide) zw_197 zw_73 zw_5 (by first | assumption | rfl) (fun j => by first | exact hV0 _ (by omega) j | (simp (disch := omega) only [zg_u_out, zv_fill_o, zf_set_o]; exact hV0 _ (by omega) j)) (fun j => by first | exact hP0 _ (by omega) j | (simp (disch := omega) only [zg_up_out]; exact hP0 _ (by omega) j)) (by omega) (by simp only [zn_n]; omega) ?_
  refine zg_dup zd_SplitSearch_init_33 rfl ?_
  refine zg_cI zd_SplitSearch_init_34 zM_Fraction_init rfl zw_198 zi_Fraction_init rfl (ci_Fraction (a := 209) (N := 210) (by decide) rfl) (by decide) (by decide) (by omega) (by first | omega | (simp only [zn_n]; omega)) (Nat.le_of_ble_eq_true rfl) ?_
  refine zg_putF zd_SplitSearch_init_37 zf_204 rfl rfl rfl (by omega) (by first | assumption | rfl) rfl ?_
  refine zg_return zd_SplitSearch_init_40 rfl ?_
  exact ⟨rfl, rfl, rfl, rfl, rfl⟩
theorem ci_Stand (hV0 : ∀ b, 211 ≤ b → ∀ j, V b j = 0) (hP0 : ∀ b, 211 ≤ b → ∀ j, P b j = none) : zg_S Γ zm_StandInSearch_init 2 3 22 [zg_r Γ 210] zk_K 211 P V (zq_p zk_K 214 (zi_PU P) V none) := by
  refine zg_enter 0 (by decide) (Nat.le_of_ble_eq_true rfl) rfl ?_
  refine zg_al0 zd_StandInSearch_init_0 ?_
  refine zg_obj zd_StandInSearch_init_1 zw_223 (by decide) (by decide) ?_
  refine zg_al0 zd_StandInSearch_init_4 ?_
  refine zg_new (ci := 8) zd_StandInSearch_init_5 (by decide) zw_224 zw_185 zw_9 (by first | assumption | rfl) (fun j => by first | exact hV0 _ (by omega) j | (simp (disch := omega) only [zg_u_out, zv_fill_o, zf_set_o]; exact hV0 _ (by omega) j)) (fun j => by first | exact hP0 _ (by omega) j | (simp (disch := omega) only [zg_up_out]; exact hP0 _ (by omega) j)) (by omega) (by simp only [zn_n]; omega) ?_
  refine zg_dup zd_StandInSearch_init_8 rfl ?_
  refine zg_cI zd_StandInSearch_init_9 zM_Limits_init rfl zw_225 zi_Limits_init rfl (ci_Limits (a := 211) (N := 212) (by decide) rfl rfl (fun b hb j => hV0 b (by omega) j)) (by decide) (by decide) (by omega) (by first | omega | (simp only [zn_n]; omega)) (Nat.le_of_ble_eq_true rfl) ?_
  refine zg_putF zd_StandInSearch_init_12 zf_228 rfl rfl rfl (by omega) (by first | assumption | rfl) rfl ?_
  refine zg_al0 zd_StandInSearch_init_15 ?_
  refine zg_new (ci := 5) zd_StandInSearch_init_16 (by decide) zw_226 zw_92 zw_6 (by first | assumption | rfl) (fun j => by first | exact hV0 _ (by omega) j | (simp (disch := omega) only [zg_u_out, zv_fill_o, zf_set_o]; exact hV0 _ (by omega) j)) (fun j => by first | exact hP0 _ (by omega) j | (simp (disch := omega) only [zg_up_out]; exact hP0 _ (by omega) j)) (by omega) (by simp only [zn_n]; omega) ?_
  refine zg_dup zd_StandInSearch_init_19 rfl ?_
  refine zg_cIN zd_StandInSearch_init_20 zM_StandIn_init rfl (fun _ h => h.2.2.2.1) zi_StandIn_init rfl (ci_StandIn) (by decide) (by decide) (by omega) (by first | omega | (simp only [zn_n]; omega)) (Nat.le_of_ble_eq_true rfl) ?_
  refine zg_putF zd_StandInSearch_init_23 zf_229 rfl rfl rfl (by omega) (by first | assumption | rfl) rfl ?_
  refine zg_return zd_StandInSearch_init_26 rfl ?_
  exact ⟨rfl, rfl, rfl, rfl, rfl⟩
theorem ci_Cutter (hV0 : ∀ b, 215 ≤ b → ∀ j, V b j = 0) (hP0 : ∀ b, 215 ≤ b → ∀ j, P b j = none) : zg_S Γ zm_Cutter_init 2 7 133 [zg_r Γ 214] zk_K 215 P V (zq_p zk_K 222 (zi_PC P) (zi_VC V) none) := by
  refine zg_enter 0 (by decide) (Nat.le_of_ble_eq_true rfl) rfl ?_
  refine zg_al0 zd_Cutter_init_0 ?_
  refine zg_obj zd_Cutter_init_1 zw_240 (by decide) (by decide) ?_
  refine zg_al0 zd_Cutter_init_4 ?_
  refine zg_new (ci := 4) zd_Cutter_init_5 (by decide) zw_241 zw_73 zw_5 (by first | assumption | rfl) (fun j => by first | exact hV0 _ (by omega) j | (simp (disch := omega) only [zg_u_out, zv_fill_o, zf_set_o]; exact hV0 _ (by omega) j)) (fun j => by first | exact hP0 _ (by omega) j | (simp (disch := omega) only [zg_up_out]; exact hP0 _ (by omega) j)) (by omega) (by simp only [zn_n]; omega) ?_
  refine zg_dup zd_Cutter_init_8 rfl ?_
  refine zg_cI zd_Cutter_init_9 zM_Fraction_init rfl zw_242 zi_Fraction_init rfl (ci_Fraction (a := 215) (N := 216) (by decide) rfl) (by decide) (by decide) (by omega) (by first | omega | (simp only [zn_n]; omega)) (Nat.le_of_ble_eq_true rfl) ?_
  refine zg_putF zd_Cutter_init_12 zf_245 rfl rfl rfl (by omega) (by first | assumption | rfl) rfl ?_
  refine zg_al0 zd_Cutter_init_15 ?_
  refine zg_new (ci := 6) zd_Cutter_init_16 (by decide) zw_243 zw_163 zw_7 (by first | assumption | rfl) (fun j => by first | exact hV0 _ (by omega) j | (simp (disch := omega) only [zg_u_out, zv_fill_o, zf_set_o]; exact hV0 _ (by omega) j)) (fun j => by first | exact hP0 _ (by omega) j | (simp (disch := omega) only [zg_up_out]; exact hP0 _ (by omega) j)) (by omega) (by simp only [zn_n]; omega) ?_
  refine zg_dup zd_Cutter_init_19 rfl ?_
  refine zg_cI zd_Cutter_init_20 zM_Shape_init rfl zw_244 zi_Shape_init rfl (ci_Shape (a := 216) (N := 217) rfl (Or.inr (Or.inr rfl)) (fun b hb j => by rw [zf_set_o _ _ _ _ (by omega)]; exact hV0 b (by omega) j)) (by decide) (by decide) (by omega) (by first | omega | (simp only [zn_n]; omega)) (Nat.le_of_ble_eq_true rfl) ?_
  refine zg_putF zd_Cutter_init_23 zf_247 rfl rfl rfl (by omega) (by first | assumption | rfl) rfl ?_
  refine zg_al0 zd_Cutter_init_26 ?_
  refine zg_new (ci := 4) zd_Cutter_init_27 (by decide) zw_241 zw_73 zw_5 (by first | assumption | rfl) (fun j => by first | exact hV0 _ (by omega) j | (simp (disch := omega) only [zg_u_out, zv_fill_o, zf_set_o]; exact hV0 _ (by omega) j)) (fun j => by first | exact hP0 _ (by omega) j | (simp (disch := omega) only [zg_up_out]; exact hP0 _ (by omega) j)) (by omega) (by simp only [zn_n]; omega) ?_
  refine zg_dup zd_Cutter_init_30 rfl ?_
  refine zg_cI zd_Cutter_init_31 zM_Fraction_init rfl zw_242 zi_Fraction_init rfl (ci_Fraction (a := 218) (N := 219) (by decide) rfl) (by decide) (by decide) (by omega) (by first | omega | (simp only [zn_n]; omega)) (Nat.le_of_ble_eq_true rfl) ?_
  refine zg_putF zd_Cutter_init_34 zf_248 rfl rfl rfl (by omega) (by first | assumption | rfl) rfl ?_
  refine zg_al0 zd_Cutter_init_37 ?_
  refine zg_bipush zd_Cutter_init_38 (by decide) ?_
  refine zg_newi zd_Cutter_init_40 (by first | assumption | rfl) (by rfl) (by decide) (fun j => by first | exact hV0 _ (by omega) j | (simp (disch := omega) only [zg_u_out, zv_fill_o, zf_set_o]; exact hV0 _ (by omega) j)) (by omega) (by first | omega | (simp only [zn_n]; omega)) ?_
  refine zg_putF zd_Cutter_init_42 zf_249 rfl rfl rfl (by omega) (by first | assumption | rfl) rfl ?_
  refine zg_al0 zd_Cutter_init_45 ?_
  refine zg_bipush zd_Cutter_init_46 (by decide) ?_
  refine zg_newi zd_Cutter_init_48 (by first | assumption | rfl) (by rfl) (by decide) (fun j => by first | exact hV0 _ (by omega) j | (simp (disch := omega) only [zg_u_out, zv_fill_o, zf_set_o]; exact hV0 _ (by omega) j)) (by omega) (by first | omega | (simp only [zn_n]; omega)) ?_
  refine zg_putF zd_Cutter_init_50 zf_250 rfl rfl rfl (by omega) (by first | assumption | rfl) rfl ?_
  refine zg_al0 zd_Cutter_init_53 ?_
  refine zg_bipush zd_Cutter_init_54 (by decide) ?_
  refine zg_newi zd_Cutter_init_56 (by first | assumption | rfl) (by rfl) (by decide) (fun j => by first | exact hV0 _ (by omega) j | (simp (disch := omega) only [zg_u_out, zv_fill_o, zf_set_o]; exact hV0 _ (by omega) j)) (by omega) (by first | omega | (simp only [zn_n]; omega)) ?_
  refine zg_putF zd_Cutter_init_58 zf_251 rfl rfl rfl (by omega) (by first | assumption | rfl) rfl ?_
  refine zg_return zd_Cutter_init_61 rfl ?_
  exact ⟨rfl, rfl, rfl, rfl, rfl⟩
end ZT84

